/-! THE CLASS: parties -/
theorem ts0_2 (x : Int32) : (x.toInt < 0 ∨ 2 < x.toInt) ∨ x = 0 ∨ x = 1 ∨ x = 2 := by
  rcases ts0_3 x with h | h | h | h | h
  · exact Or.inl (h.imp id (fun q => by omega))
  · exact Or.inr (Or.inl h)
  · exact Or.inr (Or.inr (Or.inl h))
  · exact Or.inr (Or.inr (Or.inr h))
  · exact Or.inl (Or.inr (by subst h; decide))
theorem and1 (x : Int32) : x &&& 1 = 0 ∨ x &&& 1 = 1 := by
  have h : (x &&& 1).toBitVec = 0#32 ∨ (x &&& 1).toBitVec = 1#32 := by
    rw [Int32.toBitVec_and]
    have e : (1 : Int32).toBitVec = 1#32 := rfl
    rw [e, BitVec.and_one_eq_setWidth_ofBool_getLsbD]
    cases x.toBitVec.getLsbD 0
    · left; rfl
    · right; rfl
  rcases h with h | h
  · exact Or.inl (Int32.toBitVec_inj.mp h)
  · exact Or.inr (Int32.toBitVec_inj.mp h)
/-- a party's clocks, where the reference has them -/
def clk (f : MM) (p a : Nat) : Nat → Int32 := fun k => f (p + 2 + (k - 38)) a
theorem clk_at {f : MM} {p a i : Nat} : clk f p a (38 + i) = f (p + 2 + i) a := by unfold clk; rw [Nat.add_sub_cancel_left]
def mapK (F : Nat → (Nat → Int32) → Nat → Int32) (p i : Nat) (f : MM) : MM := fun k => if p + 2 ≤ k ∧ k < p + 2 + i then F (k - (p + 2)) (f k) else f k
section MK
variable {F : Nat → (Nat → Int32) → Nat → Int32} {p i : Nat} {f : MM}
theorem mapK_0 : mapK F p 0 f = f := by
  funext k
  unfold mapK
  rw [if_neg (by omega)]
theorem mapK_at : mapK F p i f (p + 2 + i) = f (p + 2 + i) := by unfold mapK; rw [if_neg (by omega)]
theorem mapK_lo {k : Nat} (h : k < p + 2) : mapK F p i f k = f k := by unfold mapK; rw [if_neg (by omega)]
theorem mapK_hi {k : Nat} (h : p + 2 + i ≤ k) : mapK F p i f k = f k := by unfold mapK; rw [if_neg (by omega)]
theorem mapK_in {w : Nat} (h : w < i) : mapK F p i f (p + 2 + w) = F w (f (p + 2 + w)) := by
  unfold mapK
  rw [if_pos (by omega), Nat.add_sub_cancel_left]
theorem mapK_st : va_up (mapK F p i f) (p + 2 + i) (F i (f (p + 2 + i))) = mapK F p (i + 1) f := by
  funext k
  by_cases h : k = p + 2 + i
  · subst h
    rw [up_at, mapK_in (by omega)]
  · rw [up_ne h]
    unfold mapK
    have a1 : (k < p + 2 + (i + 1)) = (k < p + 2 + i) := by apply propext; omega
    simp only [a1]
theorem mapK_no (h : F i (f (p + 2 + i)) = f (p + 2 + i)) : mapK F p i f = mapK F p (i + 1) f := by
  rw [← mapK_st, h]
  funext k
  by_cases q : k = p + 2 + i
  · subst q; rw [up_at, mapK_at]
  · rw [up_ne q]
end MK
def fcI (st : Nat → Int32) (s : Int32) : Nat → Int32
  | 0 => -1
  | k + 1 => if hasB s k = true then (if fcI st s k < 0 then st (38 + k) else if fcI st s k ≤ st (38 + k) then fcI st s k else st (38 + k)) else fcI st s k
set_option maxRecDepth 100000 in
set_option maxHeartbeats 4000000 in
theorem c_X3_isIn {G : GG} {kn : Nat} {f : MM} {p i : Nat} {x : Int32} (hp : isP kn p) (hx : x = nI i) : CI G mX3_isIn 1 kn [.ref (G.1 + p), .int x] f (b1 (hasB (f p 2) i)) f := by
  refine Ct.of [some (.ref (G.1 + p)), some (.int x)] rfl (by decide +kernel) rfl (Nat.le_of_ble_eq_true rfl) rfl ?_
  intro X C
  subst hx
  refine r_aload_n (pc := 0) C dX3_isIn_0 rfl ?_
  refine r_get (pc := 1) C fX3_17 dX3_isIn_1 (p_0 hp) rfl ?_
  refine r_iload_n (pc := 4) C dX3_isIn_4 rfl ?_
  refine r_ishr (pc := 5) C dX3_isIn_5 ?_
  refine r_iconst (pc := 6) C (1) dX3_isIn_6 (by decide) ?_
  refine r_iand (pc := 7) C dX3_isIn_7 ?_
  refine r_if_eq (pc := 8) C 15 dX3_isIn_8 (by decide) (fun c8 => ?_) (fun c8 => ?_)
  · refine r_iconst (pc := 15) C (0) dX3_isIn_15 (by decide) ?_
    refine q_zret (pc := 16) C dX3_isIn_16 rfl (Or.inl rfl) ?_
    refine ⟨?_, rfl⟩
    simp only [hasB]
    first | (rw [c8]; rfl) | (rcases and1 (f p 2 >>> (nI i &&& 31)) with q | q; exact absurd q c8; rw [q]; rfl)
  · refine r_iconst (pc := 11) C (1) dX3_isIn_11 (by decide) ?_
    refine r_goto (pc := 12) C 16 dX3_isIn_12 (by decide) ?_
    refine q_zret (pc := 16) C dX3_isIn_16 rfl (Or.inr rfl) ?_
    refine ⟨?_, rfl⟩
    simp only [hasB]
    first | (rw [c8]; rfl) | (rcases and1 (f p 2 >>> (nI i &&& 31)) with q | q; exact absurd q c8; rw [q]; rfl)
theorem mx_le (x y : Int32) : (if x < y then y else x) = (if y ≤ x then x else y) := by
  by_cases h : x < y
  · rw [if_pos h, if_neg (Int32.not_le.mpr h)]
  · rw [if_neg h, if_pos (Int32.not_lt.mp h)]
set_option maxRecDepth 100000 in
set_option maxHeartbeats 4000000 in
theorem l_X3_firstCame {X : XT} {G : GG} {kn : Nat} {Q : State → Prop} {f : MM} {p n : Nat} (C : Cx X G mX3_firstCame 2 0 0 (NN kn)) (hp : isP kn p) (hn : n ≤ 6) (h1 : f p 1 = nI n) (K : Vw X G mX3_firstCame.2.2.2.1 0 0 Q (NN kn) (shF kn) f 53 [some (.ref (G.1 + p)), some (.int (fcI (clk f p 6) (f p 2) n)), some (.int (nI n))] []) : ∀ (m i : Nat), i + m = n → Vw X G mX3_firstCame.2.2.2.1 0 0 Q (NN kn) (shF kn) f 4 [some (.ref (G.1 + p)), some (.int (fcI (clk f p 6) (f p 2) i)), some (.int (nI i))] [] := by
  intro m
  induction m with
  | zero =>
    intro i hm
    obtain rfl : n = i := by omega
    refine r_iload_n (pc := 4) C dX3_firstCame_4 rfl ?_
    refine r_aload_n (pc := 5) C dX3_firstCame_5 rfl ?_
    refine r_get (pc := 6) C fX3_22 dX3_firstCame_6 (p_0 hp) rfl ?_
    refine q_ge (pc := 9) C n n 53 rfl h1 (by omega) (by omega) dX3_firstCame_9 (by decide) (fun c9 => ?_) (fun c9 => ?_)
    · exact K
    · exact absurd c9 (by omega)
  | succ m ih =>
    intro i hm
    have es : fcI (clk f p 6) (f p 2) (i + 1) = if hasB (f p 2) i = true then (if (fcI (clk f p 6) (f p 2) i) < 0 then f (p + 2 + i) 6 else if (fcI (clk f p 6) (f p 2) i) ≤ f (p + 2 + i) 6 then (fcI (clk f p 6) (f p 2) i) else f (p + 2 + i) 6) else (fcI (clk f p 6) (f p 2) i) := by rw [← clk_at (f := f) (p := p) (a := 6) (i := i)]; rfl
    refine r_iload_n (pc := 4) C dX3_firstCame_4 rfl ?_
    refine r_aload_n (pc := 5) C dX3_firstCame_5 rfl ?_
    refine r_get (pc := 6) C fX3_22 dX3_firstCame_6 (p_0 hp) rfl ?_
    refine q_ge (pc := 9) C i n 53 rfl h1 (by omega) (by omega) dX3_firstCame_9 (by decide) (fun c9 => ?_) (fun c9 => ?_)
    · exact absurd c9 (by omega)
    · refine r_aload_n (pc := 12) C dX3_firstCame_12 rfl ?_
      refine r_iload_n (pc := 13) C dX3_firstCame_13 rfl ?_
      refine q_vIf (pc := 14) C kX3_33 dX3_firstCame_14 (c_X3_isIn hp rfl) (p_0 hp) rfl rfl (Nat.le_of_ble_eq_true rfl) (by decide) ⟨by decide, by decide⟩ ?_
      refine r_if_eq (pc := 17) C 47 dX3_firstCame_17 (by decide) (fun c17 => ?_) (fun c17 => ?_)
      · replace c17 := b1_0 c17
        refine r_iinc (pc := 47) C (nI (i + 1)) dX3_firstCame_47 rfl (nI_inc _) (by decide) rfl ?_
        refine r_goto (pc := 50) C 4 dX3_firstCame_50 (by decide) ?_
        have h := ih (i + 1) (by omega)
        rw [es] at h
        simp only [c17, if_true, if_false, Bool.false_eq_true] at h
        exact h
      · replace c17 := b1_1 c17
        refine r_iload_n (pc := 20) C dX3_firstCame_20 rfl ?_
        refine r_if_lt (pc := 21) C 37 dX3_firstCame_21 (by decide) (fun c21 => ?_) (fun c21 => ?_)
        · refine r_aload_n (pc := 37) C dX3_firstCame_37 rfl ?_
          refine r_getr (pc := 38) C fX3_11 dX3_firstCame_38 (p_0 hp) rfl (p_t0 hp) ?_
          refine r_iload_n (pc := 41) C dX3_firstCame_41 rfl ?_
          refine q_aald (pc := 42) C i dX3_firstCame_42 (p_1 hp) (by decide) (p_1n hp) rfl (by omega) (by decide) (p_1t hp (by omega)) ?_
          refine r_get (pc := 43) C fX3_44 dX3_firstCame_43 (k_0 (isK.of hp (by omega))) rfl ?_
          refine r_istore_n (pc := 46) C dX3_firstCame_46 (by decide) rfl ?_
          refine r_iinc (pc := 47) C (nI (i + 1)) dX3_firstCame_47 rfl (nI_inc _) (by decide) rfl ?_
          refine r_goto (pc := 50) C 4 dX3_firstCame_50 (by decide) ?_
          have h := ih (i + 1) (by omega)
          rw [es] at h
          simp only [c17, c21, if_true, if_false, Bool.false_eq_true] at h
          exact h
        · refine r_aload_n (pc := 24) C dX3_firstCame_24 rfl ?_
          refine r_getr (pc := 25) C fX3_11 dX3_firstCame_25 (p_0 hp) rfl (p_t0 hp) ?_
          refine r_iload_n (pc := 28) C dX3_firstCame_28 rfl ?_
          refine q_aald (pc := 29) C i dX3_firstCame_29 (p_1 hp) (by decide) (p_1n hp) rfl (by omega) (by decide) (p_1t hp (by omega)) ?_
          refine r_get (pc := 30) C fX3_44 dX3_firstCame_30 (k_0 (isK.of hp (by omega))) rfl ?_
          refine r_iload_n (pc := 33) C dX3_firstCame_33 rfl ?_
          refine r_icmp_ge (pc := 34) C 47 dX3_firstCame_34 (by decide) (fun c34 => ?_) (fun c34 => ?_)
          · refine r_iinc (pc := 47) C (nI (i + 1)) dX3_firstCame_47 rfl (nI_inc _) (by decide) rfl ?_
            refine r_goto (pc := 50) C 4 dX3_firstCame_50 (by decide) ?_
            have h := ih (i + 1) (by omega)
            rw [es] at h
            simp only [c17, c21, c34, if_true, if_false, Bool.false_eq_true] at h
            exact h
          · refine r_aload_n (pc := 37) C dX3_firstCame_37 rfl ?_
            refine r_getr (pc := 38) C fX3_11 dX3_firstCame_38 (p_0 hp) rfl (p_t0 hp) ?_
            refine r_iload_n (pc := 41) C dX3_firstCame_41 rfl ?_
            refine q_aald (pc := 42) C i dX3_firstCame_42 (p_1 hp) (by decide) (p_1n hp) rfl (by omega) (by decide) (p_1t hp (by omega)) ?_
            refine r_get (pc := 43) C fX3_44 dX3_firstCame_43 (k_0 (isK.of hp (by omega))) rfl ?_
            refine r_istore_n (pc := 46) C dX3_firstCame_46 (by decide) rfl ?_
            refine r_iinc (pc := 47) C (nI (i + 1)) dX3_firstCame_47 rfl (nI_inc _) (by decide) rfl ?_
            refine r_goto (pc := 50) C 4 dX3_firstCame_50 (by decide) ?_
            have h := ih (i + 1) (by omega)
            rw [es] at h
            simp only [c17, c21, c34, if_true, if_false, Bool.false_eq_true] at h
            exact h
set_option maxRecDepth 100000 in
set_option maxHeartbeats 4000000 in
theorem c_X3_firstCame {G : GG} {kn : Nat} {f : MM} {p n : Nat} (hp : isP kn p) (hn : n ≤ 6) (h1 : f p 1 = nI n) : CI G mX3_firstCame 2 kn [.ref (G.1 + p)] f (fcI (clk f p 6) (f p 2) n) f := by
  refine Ct.of [some (.ref (G.1 + p)), none, none] rfl (by decide +kernel) rfl (Nat.le_of_ble_eq_true rfl) rfl ?_
  intro X C
  refine r_iconst (pc := 0) C (-1) dX3_firstCame_0 (by decide) ?_
  refine r_istore_n (pc := 1) C dX3_firstCame_1 (by decide) rfl ?_
  refine r_iconst (pc := 2) C (0) dX3_firstCame_2 (by decide) ?_
  refine r_istore_n (pc := 3) C dX3_firstCame_3 (by decide) rfl ?_
  refine l_X3_firstCame C hp hn h1 ?_ n 0 (by omega)
  refine r_iload_n (pc := 53) C dX3_firstCame_53 rfl ?_
  refine q_iret (pc := 54) C dX3_firstCame_54 rfl ?_
  exact ⟨rfl, rfl⟩
set_option maxRecDepth 100000 in
set_option maxHeartbeats 4000000 in
theorem l_X3_lastCame {X : XT} {G : GG} {kn : Nat} {Q : State → Prop} {f : MM} {p n : Nat} (C : Cx X G mX3_lastCame 2 0 0 (NN kn)) (hp : isP kn p) (hn : n ≤ 6) (h1 : f p 1 = nI n) (K : Vw X G mX3_lastCame.2.2.2.1 0 0 Q (NN kn) (shF kn) f 40 [some (.ref (G.1 + p)), some (.int (lastI (clk f p 6) (f p 2) n)), some (.int (nI n))] []) : ∀ (m i : Nat), i + m = n → Vw X G mX3_lastCame.2.2.2.1 0 0 Q (NN kn) (shF kn) f 4 [some (.ref (G.1 + p)), some (.int (lastI (clk f p 6) (f p 2) i)), some (.int (nI i))] [] := by
  intro m
  induction m with
  | zero =>
    intro i hm
    obtain rfl : n = i := by omega
    refine r_iload_n (pc := 4) C dX3_lastCame_4 rfl ?_
    refine r_aload_n (pc := 5) C dX3_lastCame_5 rfl ?_
    refine r_get (pc := 6) C fX3_22 dX3_lastCame_6 (p_0 hp) rfl ?_
    refine q_ge (pc := 9) C n n 40 rfl h1 (by omega) (by omega) dX3_lastCame_9 (by decide) (fun c9 => ?_) (fun c9 => ?_)
    · exact K
    · exact absurd c9 (by omega)
  | succ m ih =>
    intro i hm
    have es : lastI (clk f p 6) (f p 2) (i + 1) = if hasB (f p 2) i = true then (if f (p + 2 + i) 6 ≤ (lastI (clk f p 6) (f p 2) i) then (lastI (clk f p 6) (f p 2) i) else f (p + 2 + i) 6) else (lastI (clk f p 6) (f p 2) i) := by rw [← clk_at (f := f) (p := p) (a := 6) (i := i)]; rfl
    refine r_iload_n (pc := 4) C dX3_lastCame_4 rfl ?_
    refine r_aload_n (pc := 5) C dX3_lastCame_5 rfl ?_
    refine r_get (pc := 6) C fX3_22 dX3_lastCame_6 (p_0 hp) rfl ?_
    refine q_ge (pc := 9) C i n 40 rfl h1 (by omega) (by omega) dX3_lastCame_9 (by decide) (fun c9 => ?_) (fun c9 => ?_)
    · exact absurd c9 (by omega)
    · refine r_aload_n (pc := 12) C dX3_lastCame_12 rfl ?_
      refine r_iload_n (pc := 13) C dX3_lastCame_13 rfl ?_
      refine q_vIf (pc := 14) C kX3_33 dX3_lastCame_14 (c_X3_isIn hp rfl) (p_0 hp) rfl rfl (Nat.le_of_ble_eq_true rfl) (by decide) ⟨by decide, by decide⟩ ?_
      refine r_if_eq (pc := 17) C 34 dX3_lastCame_17 (by decide) (fun c17 => ?_) (fun c17 => ?_)
      · replace c17 := b1_0 c17
        refine r_iinc (pc := 34) C (nI (i + 1)) dX3_lastCame_34 rfl (nI_inc _) (by decide) rfl ?_
        refine r_goto (pc := 37) C 4 dX3_lastCame_37 (by decide) ?_
        have h := ih (i + 1) (by omega)
        rw [es] at h
        simp only [c17, if_true, if_false, Bool.false_eq_true] at h
        exact h
      · replace c17 := b1_1 c17
        refine r_iload_n (pc := 20) C dX3_lastCame_20 rfl ?_
        refine r_aload_n (pc := 21) C dX3_lastCame_21 rfl ?_
        refine r_getr (pc := 22) C fX3_11 dX3_lastCame_22 (p_0 hp) rfl (p_t0 hp) ?_
        refine r_iload_n (pc := 25) C dX3_lastCame_25 rfl ?_
        refine q_aald (pc := 26) C i dX3_lastCame_26 (p_1 hp) (by decide) (p_1n hp) rfl (by omega) (by decide) (p_1t hp (by omega)) ?_
        refine r_get (pc := 27) C fX3_44 dX3_lastCame_27 (k_0 (isK.of hp (by omega))) rfl ?_
        refine r_mmax (pc := 30) C kX3_68 dX3_lastCame_30 (by decide) (Nat.le_of_ble_eq_true rfl) ⟨by decide, by decide⟩ kmX3_68 ?_
        refine q_val (if f (p + 2 + i) 6 ≤ (lastI (clk f p 6) (f p 2) i) then (lastI (clk f p 6) (f p 2) i) else f (p + 2 + i) 6) (mx_le _ _) ?_
        refine r_istore_n (pc := 33) C dX3_lastCame_33 (by decide) rfl ?_
        refine r_iinc (pc := 34) C (nI (i + 1)) dX3_lastCame_34 rfl (nI_inc _) (by decide) rfl ?_
        refine r_goto (pc := 37) C 4 dX3_lastCame_37 (by decide) ?_
        have h := ih (i + 1) (by omega)
        rw [es] at h
        simp only [c17, if_true, if_false, Bool.false_eq_true] at h
        exact h
set_option maxRecDepth 100000 in
set_option maxHeartbeats 4000000 in
theorem c_X3_lastCame {G : GG} {kn : Nat} {f : MM} {p n : Nat} (hp : isP kn p) (hn : n ≤ 6) (h1 : f p 1 = nI n) : CI G mX3_lastCame 2 kn [.ref (G.1 + p)] f (lastI (clk f p 6) (f p 2) n) f := by
  refine Ct.of [some (.ref (G.1 + p)), none, none] rfl (by decide +kernel) rfl (Nat.le_of_ble_eq_true rfl) rfl ?_
  intro X C
  refine r_iconst (pc := 0) C (0) dX3_lastCame_0 (by decide) ?_
  refine r_istore_n (pc := 1) C dX3_lastCame_1 (by decide) rfl ?_
  refine r_iconst (pc := 2) C (0) dX3_lastCame_2 (by decide) ?_
  refine r_istore_n (pc := 3) C dX3_lastCame_3 (by decide) rfl ?_
  refine l_X3_lastCame C hp hn h1 ?_ n 0 (by omega)
  refine r_iload_n (pc := 40) C dX3_lastCame_40 rfl ?_
  refine q_iret (pc := 41) C dX3_lastCame_41 rfl ?_
  exact ⟨rfl, rfl⟩
set_option maxRecDepth 100000 in
set_option maxHeartbeats 4000000 in
theorem l_X3_lastMinute {X : XT} {G : GG} {kn : Nat} {Q : State → Prop} {f : MM} {p n : Nat} (C : Cx X G mX3_lastMinute 2 0 0 (NN kn)) (hp : isP kn p) (hn : n ≤ 6) (h1 : f p 1 = nI n) (K : Vw X G mX3_lastMinute.2.2.2.1 0 0 Q (NN kn) (shF kn) f 40 [some (.ref (G.1 + p)), some (.int (lastI (clk f p 4) (f p 2) n)), some (.int (nI n))] []) : ∀ (m i : Nat), i + m = n → Vw X G mX3_lastMinute.2.2.2.1 0 0 Q (NN kn) (shF kn) f 4 [some (.ref (G.1 + p)), some (.int (lastI (clk f p 4) (f p 2) i)), some (.int (nI i))] [] := by
  intro m
  induction m with
  | zero =>
    intro i hm
    obtain rfl : n = i := by omega
    refine r_iload_n (pc := 4) C dX3_lastMinute_4 rfl ?_
    refine r_aload_n (pc := 5) C dX3_lastMinute_5 rfl ?_
    refine r_get (pc := 6) C fX3_22 dX3_lastMinute_6 (p_0 hp) rfl ?_
    refine q_ge (pc := 9) C n n 40 rfl h1 (by omega) (by omega) dX3_lastMinute_9 (by decide) (fun c9 => ?_) (fun c9 => ?_)
    · exact K
    · exact absurd c9 (by omega)
  | succ m ih =>
    intro i hm
    have es : lastI (clk f p 4) (f p 2) (i + 1) = if hasB (f p 2) i = true then (if f (p + 2 + i) 4 ≤ (lastI (clk f p 4) (f p 2) i) then (lastI (clk f p 4) (f p 2) i) else f (p + 2 + i) 4) else (lastI (clk f p 4) (f p 2) i) := by rw [← clk_at (f := f) (p := p) (a := 4) (i := i)]; rfl
    refine r_iload_n (pc := 4) C dX3_lastMinute_4 rfl ?_
    refine r_aload_n (pc := 5) C dX3_lastMinute_5 rfl ?_
    refine r_get (pc := 6) C fX3_22 dX3_lastMinute_6 (p_0 hp) rfl ?_
    refine q_ge (pc := 9) C i n 40 rfl h1 (by omega) (by omega) dX3_lastMinute_9 (by decide) (fun c9 => ?_) (fun c9 => ?_)
    · exact absurd c9 (by omega)
    · refine r_aload_n (pc := 12) C dX3_lastMinute_12 rfl ?_
      refine r_iload_n (pc := 13) C dX3_lastMinute_13 rfl ?_
      refine q_vIf (pc := 14) C kX3_33 dX3_lastMinute_14 (c_X3_isIn hp rfl) (p_0 hp) rfl rfl (Nat.le_of_ble_eq_true rfl) (by decide) ⟨by decide, by decide⟩ ?_
      refine r_if_eq (pc := 17) C 34 dX3_lastMinute_17 (by decide) (fun c17 => ?_) (fun c17 => ?_)
      · replace c17 := b1_0 c17
        refine r_iinc (pc := 34) C (nI (i + 1)) dX3_lastMinute_34 rfl (nI_inc _) (by decide) rfl ?_
        refine r_goto (pc := 37) C 4 dX3_lastMinute_37 (by decide) ?_
        have h := ih (i + 1) (by omega)
        rw [es] at h
        simp only [c17, if_true, if_false, Bool.false_eq_true] at h
        exact h
      · replace c17 := b1_1 c17
        refine r_iload_n (pc := 20) C dX3_lastMinute_20 rfl ?_
        refine r_aload_n (pc := 21) C dX3_lastMinute_21 rfl ?_
        refine r_getr (pc := 22) C fX3_11 dX3_lastMinute_22 (p_0 hp) rfl (p_t0 hp) ?_
        refine r_iload_n (pc := 25) C dX3_lastMinute_25 rfl ?_
        refine q_aald (pc := 26) C i dX3_lastMinute_26 (p_1 hp) (by decide) (p_1n hp) rfl (by omega) (by decide) (p_1t hp (by omega)) ?_
        refine r_get (pc := 27) C fX3_37 dX3_lastMinute_27 (k_0 (isK.of hp (by omega))) rfl ?_
        refine r_mmax (pc := 30) C kX3_68 dX3_lastMinute_30 (by decide) (Nat.le_of_ble_eq_true rfl) ⟨by decide, by decide⟩ kmX3_68 ?_
        refine q_val (if f (p + 2 + i) 4 ≤ (lastI (clk f p 4) (f p 2) i) then (lastI (clk f p 4) (f p 2) i) else f (p + 2 + i) 4) (mx_le _ _) ?_
        refine r_istore_n (pc := 33) C dX3_lastMinute_33 (by decide) rfl ?_
        refine r_iinc (pc := 34) C (nI (i + 1)) dX3_lastMinute_34 rfl (nI_inc _) (by decide) rfl ?_
        refine r_goto (pc := 37) C 4 dX3_lastMinute_37 (by decide) ?_
        have h := ih (i + 1) (by omega)
        rw [es] at h
        simp only [c17, if_true, if_false, Bool.false_eq_true] at h
        exact h
set_option maxRecDepth 100000 in
set_option maxHeartbeats 4000000 in
theorem c_X3_lastMinute {G : GG} {kn : Nat} {f : MM} {p n : Nat} (hp : isP kn p) (hn : n ≤ 6) (h1 : f p 1 = nI n) : CI G mX3_lastMinute 2 kn [.ref (G.1 + p)] f (lastI (clk f p 4) (f p 2) n) f := by
  refine Ct.of [some (.ref (G.1 + p)), none, none] rfl (by decide +kernel) rfl (Nat.le_of_ble_eq_true rfl) rfl ?_
  intro X C
  refine r_iconst (pc := 0) C (0) dX3_lastMinute_0 (by decide) ?_
  refine r_istore_n (pc := 1) C dX3_lastMinute_1 (by decide) rfl ?_
  refine r_iconst (pc := 2) C (0) dX3_lastMinute_2 (by decide) ?_
  refine r_istore_n (pc := 3) C dX3_lastMinute_3 (by decide) rfl ?_
  refine l_X3_lastMinute C hp hn h1 ?_ n 0 (by omega)
  refine r_iload_n (pc := 40) C dX3_lastMinute_40 rfl ?_
  refine q_iret (pc := 41) C dX3_lastMinute_41 rfl ?_
  exact ⟨rfl, rfl⟩
set_option maxRecDepth 100000 in
set_option maxHeartbeats 4000000 in
theorem l_X3_firstToLeave {X : XT} {G : GG} {kn : Nat} {Q : State → Prop} {f : MM} {p n : Nat} (C : Cx X G mX3_firstToLeave 2 0 0 (NN kn)) (hp : isP kn p) (hn : n ≤ 6) (h1 : f p 1 = nI n) (K : Vw X G mX3_firstToLeave.2.2.2.1 0 0 Q (NN kn) (shF kn) f 53 [some (.ref (G.1 + p)), some (.int (oI (firstS (clk f p 4) (f p 2) n))), some (.int (nI n))] []) : ∀ (m i : Nat), i + m = n → Vw X G mX3_firstToLeave.2.2.2.1 0 0 Q (NN kn) (shF kn) f 4 [some (.ref (G.1 + p)), some (.int (oI (firstS (clk f p 4) (f p 2) i))), some (.int (nI i))] [] := by
  intro m
  induction m with
  | zero =>
    intro i hm
    obtain rfl : n = i := by omega
    refine r_iload_n (pc := 4) C dX3_firstToLeave_4 rfl ?_
    refine r_aload_n (pc := 5) C dX3_firstToLeave_5 rfl ?_
    refine r_get (pc := 6) C fX3_22 dX3_firstToLeave_6 (p_0 hp) rfl ?_
    refine q_ge (pc := 9) C n n 53 rfl h1 (by omega) (by omega) dX3_firstToLeave_9 (by decide) (fun c9 => ?_) (fun c9 => ?_)
    · exact K
    · exact absurd c9 (by omega)
  | succ m ih =>
    intro i hm
    have es : firstS (clk f p 4) (f p 2) (i + 1) = if hasB (f p 2) i = true then (match firstS (clk f p 4) (f p 2) i with
      | none => some i
      | some k => if f (p + 2 + k) 4 ≤ f (p + 2 + i) 4 then some k else some i) else firstS (clk f p 4) (f p 2) i := by
      simp only [← clk_at (f := f) (p := p) (a := 4)]; rfl
    cases ho : firstS (clk f p 4) (f p 2) i with
    | none =>
      rw [ho] at es
      refine r_iload_n (pc := 4) C dX3_firstToLeave_4 rfl ?_
      refine r_aload_n (pc := 5) C dX3_firstToLeave_5 rfl ?_
      refine r_get (pc := 6) C fX3_22 dX3_firstToLeave_6 (p_0 hp) rfl ?_
      refine q_ge (pc := 9) C i n 53 rfl h1 (by omega) (by omega) dX3_firstToLeave_9 (by decide) (fun c9 => ?_) (fun c9 => ?_)
      · exact absurd c9 (by omega)
      · refine r_aload_n (pc := 12) C dX3_firstToLeave_12 rfl ?_
        refine r_iload_n (pc := 13) C dX3_firstToLeave_13 rfl ?_
        refine q_vIf (pc := 14) C kX3_33 dX3_firstToLeave_14 (c_X3_isIn hp rfl) (p_0 hp) rfl rfl (Nat.le_of_ble_eq_true rfl) (by decide) ⟨by decide, by decide⟩ ?_
        refine r_if_eq (pc := 17) C 47 dX3_firstToLeave_17 (by decide) (fun c17 => ?_) (fun c17 => ?_)
        · replace c17 := b1_0 c17
          refine r_iinc (pc := 47) C (nI (i + 1)) dX3_firstToLeave_47 rfl (nI_inc _) (by decide) rfl ?_
          refine r_goto (pc := 50) C 4 dX3_firstToLeave_50 (by decide) ?_
          have e1 : firstS (clk f p 4) (f p 2) (i + 1) = none := by rw [es]; simp [ho, c17]
          have h := ih (i + 1) (by omega)
          rw [e1] at h
          refine v_drop _ (by repeat (first | exact trivial | exact rfl | constructor)) h
        · replace c17 := b1_1 c17
          refine r_iload_n (pc := 20) C dX3_firstToLeave_20 rfl ?_
          refine r_if_lt (pc := 21) C 45 dX3_firstToLeave_21 (by decide) (fun c21 => ?_) (fun c21 => ?_)
          · refine r_iload_n (pc := 45) C dX3_firstToLeave_45 rfl ?_
            refine r_istore_n (pc := 46) C dX3_firstToLeave_46 (by decide) rfl ?_
            refine r_iinc (pc := 47) C (nI (i + 1)) dX3_firstToLeave_47 rfl (nI_inc _) (by decide) rfl ?_
            refine r_goto (pc := 50) C 4 dX3_firstToLeave_50 (by decide) ?_
            have e1 : firstS (clk f p 4) (f p 2) (i + 1) = some i := by rw [es]; simp [ho, c17]
            have h := ih (i + 1) (by omega)
            rw [e1] at h
            refine v_drop _ (by repeat (first | exact trivial | exact rfl | constructor)) h
          · exact absurd c21 (by decide)
    | some k =>
      rw [ho] at es
      have hk := firstS_lt ho
      refine r_iload_n (pc := 4) C dX3_firstToLeave_4 rfl ?_
      refine r_aload_n (pc := 5) C dX3_firstToLeave_5 rfl ?_
      refine r_get (pc := 6) C fX3_22 dX3_firstToLeave_6 (p_0 hp) rfl ?_
      refine q_ge (pc := 9) C i n 53 rfl h1 (by omega) (by omega) dX3_firstToLeave_9 (by decide) (fun c9 => ?_) (fun c9 => ?_)
      · exact absurd c9 (by omega)
      · refine r_aload_n (pc := 12) C dX3_firstToLeave_12 rfl ?_
        refine r_iload_n (pc := 13) C dX3_firstToLeave_13 rfl ?_
        refine q_vIf (pc := 14) C kX3_33 dX3_firstToLeave_14 (c_X3_isIn hp rfl) (p_0 hp) rfl rfl (Nat.le_of_ble_eq_true rfl) (by decide) ⟨by decide, by decide⟩ ?_
        refine r_if_eq (pc := 17) C 47 dX3_firstToLeave_17 (by decide) (fun c17 => ?_) (fun c17 => ?_)
        · replace c17 := b1_0 c17
          refine r_iinc (pc := 47) C (nI (i + 1)) dX3_firstToLeave_47 rfl (nI_inc _) (by decide) rfl ?_
          refine r_goto (pc := 50) C 4 dX3_firstToLeave_50 (by decide) ?_
          have e1 : firstS (clk f p 4) (f p 2) (i + 1) = some k := by rw [es]; simp [ho, c17]
          have h := ih (i + 1) (by omega)
          rw [e1] at h
          refine v_drop _ (by repeat (first | exact trivial | exact rfl | constructor)) h
        · replace c17 := b1_1 c17
          refine r_iload_n (pc := 20) C dX3_firstToLeave_20 rfl ?_
          refine r_if_lt (pc := 21) C 45 dX3_firstToLeave_21 (by decide) (fun c21 => ?_) (fun c21 => ?_)
          · exact absurd c21 (nI_pos (by omega))
          · refine r_aload_n (pc := 24) C dX3_firstToLeave_24 rfl ?_
            refine r_getr (pc := 25) C fX3_11 dX3_firstToLeave_25 (p_0 hp) rfl (p_t0 hp) ?_
            refine r_iload_n (pc := 28) C dX3_firstToLeave_28 rfl ?_
            refine q_aald (pc := 29) C i dX3_firstToLeave_29 (p_1 hp) (by decide) (p_1n hp) rfl (by omega) (by decide) (p_1t hp (by omega)) ?_
            refine r_get (pc := 30) C fX3_37 dX3_firstToLeave_30 (k_0 (isK.of hp (by omega))) rfl ?_
            refine r_aload_n (pc := 33) C dX3_firstToLeave_33 rfl ?_
            refine r_getr (pc := 34) C fX3_11 dX3_firstToLeave_34 (p_0 hp) rfl (p_t0 hp) ?_
            refine r_iload_n (pc := 37) C dX3_firstToLeave_37 rfl ?_
            refine q_aald (pc := 38) C k dX3_firstToLeave_38 (p_1 hp) (by decide) (p_1n hp) rfl (by omega) (by decide) (p_1t hp (by omega)) ?_
            refine r_get (pc := 39) C fX3_37 dX3_firstToLeave_39 (k_0 (isK.of hp (by omega))) rfl ?_
            refine r_icmp_ge (pc := 42) C 47 dX3_firstToLeave_42 (by decide) (fun c42 => ?_) (fun c42 => ?_)
            · refine r_iinc (pc := 47) C (nI (i + 1)) dX3_firstToLeave_47 rfl (nI_inc _) (by decide) rfl ?_
              refine r_goto (pc := 50) C 4 dX3_firstToLeave_50 (by decide) ?_
              have e1 : firstS (clk f p 4) (f p 2) (i + 1) = some k := by rw [es]; simp [ho, c17, c42]
              have h := ih (i + 1) (by omega)
              rw [e1] at h
              refine v_drop _ (by repeat (first | exact trivial | exact rfl | constructor)) h
            · replace c42 := Int32.not_le.mpr (Int32.not_le.mp c42)
              refine r_iload_n (pc := 45) C dX3_firstToLeave_45 rfl ?_
              refine r_istore_n (pc := 46) C dX3_firstToLeave_46 (by decide) rfl ?_
              refine r_iinc (pc := 47) C (nI (i + 1)) dX3_firstToLeave_47 rfl (nI_inc _) (by decide) rfl ?_
              refine r_goto (pc := 50) C 4 dX3_firstToLeave_50 (by decide) ?_
              have e1 : firstS (clk f p 4) (f p 2) (i + 1) = some i := by rw [es]; simp [ho, c17, c42]
              have h := ih (i + 1) (by omega)
              rw [e1] at h
              refine v_drop _ (by repeat (first | exact trivial | exact rfl | constructor)) h
set_option maxRecDepth 100000 in
set_option maxHeartbeats 4000000 in
theorem c_X3_firstToLeave {G : GG} {kn : Nat} {f : MM} {p n : Nat} (hp : isP kn p) (hn : n ≤ 6) (h1 : f p 1 = nI n) : CI G mX3_firstToLeave 2 kn [.ref (G.1 + p)] f (oI (firstS (clk f p 4) (f p 2) n)) f := by
  refine Ct.of [some (.ref (G.1 + p)), none, none] rfl (by decide +kernel) rfl (Nat.le_of_ble_eq_true rfl) rfl ?_
  intro X C
  refine r_iconst (pc := 0) C (-1) dX3_firstToLeave_0 (by decide) ?_
  refine r_istore_n (pc := 1) C dX3_firstToLeave_1 (by decide) rfl ?_
  refine r_iconst (pc := 2) C (0) dX3_firstToLeave_2 (by decide) ?_
  refine r_istore_n (pc := 3) C dX3_firstToLeave_3 (by decide) rfl ?_
  refine l_X3_firstToLeave C hp hn h1 ?_ n 0 (by omega)
  refine r_iload_n (pc := 53) C dX3_firstToLeave_53 rfl ?_
  refine q_iret (pc := 54) C dX3_firstToLeave_54 rfl ?_
  exact ⟨rfl, rfl⟩
def leavC (rule m came first last : Int32) : Int32 := if rule = 0 then last else if rule = 1 then last + m else if rule = 2 then (if first + m < came then came else first + m) else came
theorem leavC_out {rule m came first last : Int32} (h : rule.toInt < 0 ∨ 2 < rule.toInt) : leavC rule m came first last = came := by
  unfold leavC
  rw [if_neg (tsne h (by decide)), if_neg (tsne h (by decide)), if_neg (tsne h (by decide))]
set_option maxRecDepth 100000 in
set_option maxHeartbeats 4000000 in
theorem c_X3_leavesAt {G : GG} {kn : Nat} {f : MM} {r m c a z : Int32} : CI G mX3_leavesAt 2 kn [.int r, .int m, .int c, .int a, .int z] f (leavC r m c a z) f := by
  refine Ct.of [some (.int r), some (.int m), some (.int c), some (.int a), some (.int z)] rfl (by decide +kernel) rfl (Nat.le_of_ble_eq_true rfl) rfl ?_
  intro X C
  refine r_iload_n (pc := 0) C dX3_leavesAt_0 rfl ?_
  refine r_top (fun x1 hx1 => ?_)
  rcases ts0_2 x1 with c1 | c1 | c1 | c1
  · refine r_tableOut (pc := 1) C 44 dX3_leavesAt_1 c1 (by decide) ?_
    refine r_iload_n (pc := 44) C dX3_leavesAt_44 rfl ?_
    refine q_iret (pc := 45) C dX3_leavesAt_45 rfl ?_
    refine ⟨?_, rfl⟩
    subst hx1
    first | exact (leavC_out c1).symm | (subst c1; rfl)
  · refine r_tableEq (pc := 1) C 28 (0) c1 dX3_leavesAt_1 (by decide) (by decide) rfl (by decide) ?_
    refine r_iload (pc := 28) C dX3_leavesAt_28 rfl ?_
    refine q_iret (pc := 30) C dX3_leavesAt_30 rfl ?_
    refine ⟨?_, rfl⟩
    subst hx1
    first | exact (leavC_out c1).symm | (subst c1; rfl)
  · refine r_tableEq (pc := 1) C 31 (1) c1 dX3_leavesAt_1 (by decide) (by decide) rfl (by decide) ?_
    refine r_iload (pc := 31) C dX3_leavesAt_31 rfl ?_
    refine r_iload_n (pc := 33) C dX3_leavesAt_33 rfl ?_
    refine r_iadd (pc := 34) C dX3_leavesAt_34 ?_
    refine q_iret (pc := 35) C dX3_leavesAt_35 rfl ?_
    refine ⟨?_, rfl⟩
    subst hx1
    first | exact (leavC_out c1).symm | (subst c1; rfl)
  · refine r_tableEq (pc := 1) C 36 (2) c1 dX3_leavesAt_1 (by decide) (by decide) rfl (by decide) ?_
    refine r_iload_n (pc := 36) C dX3_leavesAt_36 rfl ?_
    refine r_iload_n (pc := 37) C dX3_leavesAt_37 rfl ?_
    refine r_iadd (pc := 38) C dX3_leavesAt_38 ?_
    refine r_iload_n (pc := 39) C dX3_leavesAt_39 rfl ?_
    refine r_mmax (pc := 40) C kX3_68 dX3_leavesAt_40 (by decide) (Nat.le_of_ble_eq_true rfl) ⟨by decide, by decide⟩ kmX3_68 ?_
    refine q_iret (pc := 43) C dX3_leavesAt_43 rfl ?_
    refine ⟨?_, rfl⟩
    subst hx1
    first | exact (leavC_out c1).symm | (subst c1; rfl)
def wkF (s m : Int32) (ah : Option Nat) (w : Nat) (r : Nat → Int32) : Nat → Int32 := if hasB s w = true then upd (upd r 6 (r 4 + tkW (r 0) (r 1) (r 2) (r 3) m)) 3 (r 3 + moW (r 0) (r 2) m (decide (ah = some w))) else r
def C_walk (f : MM) (p n : Nat) (m : Int32) : MM := mapK (wkF (f p 2) m (firstS (clk f p 4) (f p 2) n)) p n f
set_option maxRecDepth 100000 in
set_option maxHeartbeats 4000000 in
theorem l_walkLeg {X : XT} {G : GG} {kn : Nat} {Q : State → Prop} {f : MM} {p n : Nat} {mi : Int32} (C : Cx X G mX3_walkLeg 3 0 0 (NN kn)) (hp : isP kn p) (hn : n ≤ 6) (h1 : f p 1 = nI n) (hf : ∀ w, w < n → hasB (f p 2) w = true → fitW (f (p + 2 + w))) (K : Vw X G mX3_walkLeg.2.2.2.1 0 0 Q (NN kn) (shF kn) (mapK (wkF (f p 2) mi (firstS (clk f p 4) (f p 2) n)) p n f) 80 [some (.ref (G.1 + p)), some (.int mi), some (.int (oI (firstS (clk f p 4) (f p 2) n))), some (.int (nI n)), none] []) : ∀ (m i : Nat), i + m = n → Vw X G mX3_walkLeg.2.2.2.1 0 0 Q (NN kn) (shF kn) (mapK (wkF (f p 2) mi (firstS (clk f p 4) (f p 2) n)) p i f) 7 [some (.ref (G.1 + p)), some (.int mi), some (.int (oI (firstS (clk f p 4) (f p 2) n))), some (.int (nI i)), none] [] := by
  intro m
  induction m with
  | zero =>
    intro i hm
    obtain rfl : n = i := by omega
    refine r_iload_n (pc := 7) C dX3_walkLeg_7 rfl ?_
    refine r_aload_n (pc := 8) C dX3_walkLeg_8 rfl ?_
    refine r_get (pc := 9) C fX3_22 dX3_walkLeg_9 (p_0 hp) rfl ?_
    refine q_ge (pc := 12) C n n 80 rfl (by rw [mapK_lo (by omega)]; exact h1) (by omega) (by omega) dX3_walkLeg_12 (by decide) (fun c12 => ?_) (fun c12 => ?_)
    · exact K
    · exact absurd c12 (by omega)
  | succ m ih =>
    intro i hm
    refine r_iload_n (pc := 7) C dX3_walkLeg_7 rfl ?_
    refine r_aload_n (pc := 8) C dX3_walkLeg_8 rfl ?_
    refine r_get (pc := 9) C fX3_22 dX3_walkLeg_9 (p_0 hp) rfl ?_
    refine q_ge (pc := 12) C i n 80 rfl (by rw [mapK_lo (by omega)]; exact h1) (by omega) (by omega) dX3_walkLeg_12 (by decide) (fun c12 => ?_) (fun c12 => ?_)
    · exact absurd c12 (by omega)
    · refine r_aload_n (pc := 15) C dX3_walkLeg_15 rfl ?_
      refine r_iload_n (pc := 16) C dX3_walkLeg_16 rfl ?_
      refine q_vIf (pc := 17) C kX3_33 dX3_walkLeg_17 (c_X3_isIn hp rfl) (p_0 hp) rfl rfl (Nat.le_of_ble_eq_true rfl) (by decide) ⟨by decide, by decide⟩ ?_
      rw [mapK_lo (by omega)]
      refine r_if_eq (pc := 20) C 74 dX3_walkLeg_20 (by decide) (fun c20 => ?_) (fun c20 => ?_)
      · replace c20 := b1_0 c20
        refine r_iinc (pc := 74) C (nI (i + 1)) dX3_walkLeg_74 rfl (nI_inc _) (by decide) rfl ?_
        refine r_goto (pc := 77) C 7 dX3_walkLeg_77 (by decide) ?_
        refine q_f (f' := mapK (wkF (f p 2) mi (firstS (clk f p 4) (f p 2) n)) p (i + 1) f) (mapK_no (by simp only [wkF]; rw [if_neg (by rw [c20]; decide)])) ?_
        exact v_drop _ (by repeat (first | exact trivial | exact rfl | constructor)) (ih (i + 1) (by omega))
      · replace c20 := b1_1 c20
        refine r_aload_n (pc := 23) C dX3_walkLeg_23 rfl ?_
        refine r_getr (pc := 24) C fX3_11 dX3_walkLeg_24 (p_0 hp) rfl (p_t0 hp) ?_
        refine r_iload_n (pc := 27) C dX3_walkLeg_27 rfl ?_
        refine q_aald (pc := 28) C i dX3_walkLeg_28 (p_1 hp) (by decide) (p_1n hp) rfl (by omega) (by decide) (p_1t hp (by omega)) ?_
        refine r_astore (pc := 29) C dX3_walkLeg_29 (by decide) rfl ?_
        refine r_aload (pc := 31) C dX3_walkLeg_31 rfl ?_
        refine r_aload (pc := 33) C dX3_walkLeg_33 rfl ?_
        refine r_get (pc := 35) C fX3_37 dX3_walkLeg_35 (k_0 (isK.of hp (by omega))) rfl ?_
        refine q_val (f (p + 2 + i) 4) (by rw [mapK_at]) ?_
        refine r_aload (pc := 38) C dX3_walkLeg_38 rfl ?_
        refine r_iload_n (pc := 40) C dX3_walkLeg_40 rfl ?_
        refine q_vIf (pc := 41) C kX3_40 dX3_walkLeg_41 (c_X6_minutesFor (isK.of hp (by omega)) (by rw [mapK_at]; exact hf i (by omega) c20)) (k_0 (isK.of hp (by omega))) rfl rfl (Nat.le_of_ble_eq_true rfl) (by decide) ⟨by decide, by decide⟩ ?_
        rw [mapK_at]
        refine r_iadd (pc := 44) C dX3_walkLeg_44 ?_
        refine r_put (pc := 45) C fX3_44 ftX6_6 dX3_walkLeg_45 (k_0 (isK.of hp (by omega))) rfl ?_
        refine r_aload (pc := 48) C dX3_walkLeg_48 rfl ?_
        refine r_dup (pc := 50) C dX3_walkLeg_50 rfl ?_
        refine r_get (pc := 51) C fX3_47 dX3_walkLeg_51 (k_0 (isK.of hp (by omega))) rfl ?_
        refine q_val (f (p + 2 + i) 3) (by rw [u2_up, up_at, upd_ne (by decide), mapK_at]) ?_
        refine r_aload (pc := 54) C dX3_walkLeg_54 rfl ?_
        refine r_iload_n (pc := 56) C dX3_walkLeg_56 rfl ?_
        refine r_iload_n (pc := 57) C dX3_walkLeg_57 rfl ?_
        refine r_iload_n (pc := 58) C dX3_walkLeg_58 rfl ?_
        refine r_icmp_ne (pc := 59) C 66 dX3_walkLeg_59 (by decide) (fun c59 => ?_) (fun c59 => ?_)
        · have e59 : decide ((firstS (clk f p 4) (f p 2) n) = some i) = false := decide_eq_false (fun q => c59 ((oI_eq (by omega) (fun k hk => by have := firstS_lt hk; omega)).mpr q))
          refine r_iconst (pc := 66) C (0) dX3_walkLeg_66 (by decide) ?_
          refine q_vIf (pc := 67) C kX3_50 dX3_walkLeg_67 (c_X6_tiresBy (b := false) (isK.of hp (by omega))) (k_0 (isK.of hp (by omega))) rfl rfl (Nat.le_of_ble_eq_true rfl) (by decide) ⟨by decide, by decide⟩ ?_
          refine q_val (moW (f (p + 2 + i) 0) (f (p + 2 + i) 2) mi (decide ((firstS (clk f p 4) (f p 2) n) = some i))) (by rw [u2_up, up_at, upd_ne (by decide), upd_ne (by decide), mapK_at, e59]) ?_
          refine r_iadd (pc := 70) C dX3_walkLeg_70 ?_
          refine r_put (pc := 71) C fX3_47 ftX6_3 dX3_walkLeg_71 (k_0 (isK.of hp (by omega))) rfl ?_
          refine r_iinc (pc := 74) C (nI (i + 1)) dX3_walkLeg_74 rfl (nI_inc _) (by decide) rfl ?_
          refine r_goto (pc := 77) C 7 dX3_walkLeg_77 (by decide) ?_
          refine q_f (f' := mapK (wkF (f p 2) mi (firstS (clk f p 4) (f p 2) n)) p (i + 1) f) (by rw [← mapK_st]; simp only [wkF]; rw [if_pos c20, u2_up, u2_up, up_up, up_at, mapK_at]) ?_
          exact v_drop _ (by repeat (first | exact trivial | exact rfl | constructor)) (ih (i + 1) (by omega))
        · have e59 : decide ((firstS (clk f p 4) (f p 2) n) = some i) = true := decide_eq_true ((oI_eq (by omega) (fun k hk => by have := firstS_lt hk; omega)).mp c59)
          refine r_iconst (pc := 62) C (1) dX3_walkLeg_62 (by decide) ?_
          refine r_goto (pc := 63) C 67 dX3_walkLeg_63 (by decide) ?_
          refine q_vIf (pc := 67) C kX3_50 dX3_walkLeg_67 (c_X6_tiresBy (b := true) (isK.of hp (by omega))) (k_0 (isK.of hp (by omega))) rfl rfl (Nat.le_of_ble_eq_true rfl) (by decide) ⟨by decide, by decide⟩ ?_
          refine q_val (moW (f (p + 2 + i) 0) (f (p + 2 + i) 2) mi (decide ((firstS (clk f p 4) (f p 2) n) = some i))) (by rw [u2_up, up_at, upd_ne (by decide), upd_ne (by decide), mapK_at, e59]) ?_
          refine r_iadd (pc := 70) C dX3_walkLeg_70 ?_
          refine r_put (pc := 71) C fX3_47 ftX6_3 dX3_walkLeg_71 (k_0 (isK.of hp (by omega))) rfl ?_
          refine r_iinc (pc := 74) C (nI (i + 1)) dX3_walkLeg_74 rfl (nI_inc _) (by decide) rfl ?_
          refine r_goto (pc := 77) C 7 dX3_walkLeg_77 (by decide) ?_
          refine q_f (f' := mapK (wkF (f p 2) mi (firstS (clk f p 4) (f p 2) n)) p (i + 1) f) (by rw [← mapK_st]; simp only [wkF]; rw [if_pos c20, u2_up, u2_up, up_up, up_at, mapK_at]) ?_
          exact v_drop _ (by repeat (first | exact trivial | exact rfl | constructor)) (ih (i + 1) (by omega))
set_option maxRecDepth 100000 in
set_option maxHeartbeats 4000000 in
theorem c_X3_walkLeg {G : GG} {kn : Nat} {f : MM} {p n : Nat} (hp : isP kn p) (hn : n ≤ 6) (h1 : f p 1 = nI n) {mi : Int32} (hf : ∀ w, w < n → hasB (f p 2) w = true → fitW (f (p + 2 + w))) : CV G mX3_walkLeg 3 kn [.ref (G.1 + p), .int mi] f (C_walk f p n mi) := by
  refine Ct.of [some (.ref (G.1 + p)), some (.int mi), none, none, none] rfl (by decide +kernel) rfl (Nat.le_of_ble_eq_true rfl) rfl ?_
  intro X C
  refine r_aload_n (pc := 0) C dX3_walkLeg_0 rfl ?_
  refine q_vIf (pc := 1) C kX3_29 dX3_walkLeg_1 (c_X3_firstToLeave hp hn h1) (p_0 hp) rfl rfl (Nat.le_of_ble_eq_true rfl) (by decide) ⟨by decide, by decide⟩ ?_
  refine r_istore_n (pc := 4) C dX3_walkLeg_4 (by decide) rfl ?_
  refine r_iconst (pc := 5) C (0) dX3_walkLeg_5 (by decide) ?_
  refine r_istore_n (pc := 6) C dX3_walkLeg_6 (by decide) rfl ?_
  refine q_f (f' := mapK (wkF (f p 2) mi (firstS (clk f p 4) (f p 2) n)) p 0 f) mapK_0.symm ?_
  refine l_walkLeg C hp hn h1 hf ?_ n 0 (by omega)
  refine q_vret (pc := 80) C dX3_walkLeg_80 rfl ?_
  rfl
def lvF (s rule m first last : Int32) (w : Nat) (r : Nat → Int32) : Nat → Int32 := if hasB s w = true then leaveR r (leavC rule m (r 6) first last) else r
def C_leave (f : MM) (p n : Nat) (rule m : Int32) : MM := mapK (lvF (f p 2) rule m (fcI (clk f p 6) (f p 2) n) (lastI (clk f p 6) (f p 2) n)) p n f
set_option maxRecDepth 100000 in
set_option maxHeartbeats 4000000 in
theorem l_leaveGate {X : XT} {G : GG} {kn : Nat} {Q : State → Prop} {f : MM} {p n : Nat} {ru mi : Int32} (C : Cx X G mX3_leaveGate 3 0 0 (NN kn)) (hp : isP kn p) (hn : n ≤ 6) (h1 : f p 1 = nI n)  (K : Vw X G mX3_leaveGate.2.2.2.1 0 0 Q (NN kn) (shF kn) (mapK (lvF (f p 2) ru mi (fcI (clk f p 6) (f p 2) n) (lastI (clk f p 6) (f p 2) n)) p n f) 66 [some (.ref (G.1 + p)), some (.int ru), some (.int mi), some (.int (fcI (clk f p 6) (f p 2) n)), some (.int (lastI (clk f p 6) (f p 2) n)), some (.int (nI n))] []) : ∀ (m i : Nat), i + m = n → Vw X G mX3_leaveGate.2.2.2.1 0 0 Q (NN kn) (shF kn) (mapK (lvF (f p 2) ru mi (fcI (clk f p 6) (f p 2) n) (lastI (clk f p 6) (f p 2) n)) p i f) 14 [some (.ref (G.1 + p)), some (.int ru), some (.int mi), some (.int (fcI (clk f p 6) (f p 2) n)), some (.int (lastI (clk f p 6) (f p 2) n)), some (.int (nI i))] [] := by
  intro m
  induction m with
  | zero =>
    intro i hm
    obtain rfl : n = i := by omega
    refine r_iload (pc := 14) C dX3_leaveGate_14 rfl ?_
    refine r_aload_n (pc := 16) C dX3_leaveGate_16 rfl ?_
    refine r_get (pc := 17) C fX3_22 dX3_leaveGate_17 (p_0 hp) rfl ?_
    refine q_ge (pc := 20) C n n 66 rfl (by rw [mapK_lo (by omega)]; exact h1) (by omega) (by omega) dX3_leaveGate_20 (by decide) (fun c20 => ?_) (fun c20 => ?_)
    · exact K
    · exact absurd c20 (by omega)
  | succ m ih =>
    intro i hm
    refine r_iload (pc := 14) C dX3_leaveGate_14 rfl ?_
    refine r_aload_n (pc := 16) C dX3_leaveGate_16 rfl ?_
    refine r_get (pc := 17) C fX3_22 dX3_leaveGate_17 (p_0 hp) rfl ?_
    refine q_ge (pc := 20) C i n 66 rfl (by rw [mapK_lo (by omega)]; exact h1) (by omega) (by omega) dX3_leaveGate_20 (by decide) (fun c20 => ?_) (fun c20 => ?_)
    · exact absurd c20 (by omega)
    · refine r_aload_n (pc := 23) C dX3_leaveGate_23 rfl ?_
      refine r_iload (pc := 24) C dX3_leaveGate_24 rfl ?_
      refine q_vIf (pc := 26) C kX3_33 dX3_leaveGate_26 (c_X3_isIn hp rfl) (p_0 hp) rfl rfl (Nat.le_of_ble_eq_true rfl) (by decide) ⟨by decide, by decide⟩ ?_
      rw [mapK_lo (by omega)]
      refine r_if_eq (pc := 29) C 60 dX3_leaveGate_29 (by decide) (fun c29 => ?_) (fun c29 => ?_)
      · replace c29 := b1_0 c29
        refine r_iinc (pc := 60) C (nI (i + 1)) dX3_leaveGate_60 rfl (nI_inc _) (by decide) rfl ?_
        refine r_goto (pc := 63) C 14 dX3_leaveGate_63 (by decide) ?_
        refine q_f (f' := mapK (lvF (f p 2) ru mi (fcI (clk f p 6) (f p 2) n) (lastI (clk f p 6) (f p 2) n)) p (i + 1) f) (mapK_no (by simp only [lvF]; rw [if_neg (by rw [c29]; decide)])) ?_
        exact v_drop _ (by repeat (first | exact trivial | exact rfl | constructor)) (ih (i + 1) (by omega))
      · replace c29 := b1_1 c29
        refine r_aload_n (pc := 32) C dX3_leaveGate_32 rfl ?_
        refine r_getr (pc := 33) C fX3_11 dX3_leaveGate_33 (p_0 hp) rfl (p_t0 hp) ?_
        refine r_iload (pc := 36) C dX3_leaveGate_36 rfl ?_
        refine q_aald (pc := 38) C i dX3_leaveGate_38 (p_1 hp) (by decide) (p_1n hp) rfl (by omega) (by decide) (p_1t hp (by omega)) ?_
        refine r_iload_n (pc := 39) C dX3_leaveGate_39 rfl ?_
        refine r_iload_n (pc := 40) C dX3_leaveGate_40 rfl ?_
        refine r_aload_n (pc := 41) C dX3_leaveGate_41 rfl ?_
        refine r_getr (pc := 42) C fX3_11 dX3_leaveGate_42 (p_0 hp) rfl (p_t0 hp) ?_
        refine r_iload (pc := 45) C dX3_leaveGate_45 rfl ?_
        refine q_aald (pc := 47) C i dX3_leaveGate_47 (p_1 hp) (by decide) (p_1n hp) rfl (by omega) (by decide) (p_1t hp (by omega)) ?_
        refine r_get (pc := 48) C fX3_44 dX3_leaveGate_48 (k_0 (isK.of hp (by omega))) rfl ?_
        refine q_val (f (p + 2 + i) 6) (by rw [mapK_at]) ?_
        refine r_iload_n (pc := 51) C dX3_leaveGate_51 rfl ?_
        refine r_iload (pc := 52) C dX3_leaveGate_52 rfl ?_
        refine q_sIf (pc := 54) C kX3_60 dX3_leaveGate_54 (c_X3_leavesAt) rfl rfl (Nat.le_of_ble_eq_true rfl) (by decide) ⟨by decide, by decide⟩ ?_
        refine q_vVf (pc := 57) C kX3_64 dX3_leaveGate_57 (c_X6_leaveAt (isK.of hp (by omega))) (k_0 (isK.of hp (by omega))) rfl rfl (Nat.le_of_ble_eq_true rfl) (by decide) ⟨by decide, by decide⟩ ?_
        refine r_iinc (pc := 60) C (nI (i + 1)) dX3_leaveGate_60 rfl (nI_inc _) (by decide) rfl ?_
        refine r_goto (pc := 63) C 14 dX3_leaveGate_63 (by decide) ?_
        refine q_f (f' := mapK (lvF (f p 2) ru mi (fcI (clk f p 6) (f p 2) n) (lastI (clk f p 6) (f p 2) n)) p (i + 1) f) (by rw [← mapK_st]; simp only [lvF]; rw [if_pos c29, mapK_at]) ?_
        exact v_drop _ (by repeat (first | exact trivial | exact rfl | constructor)) (ih (i + 1) (by omega))
set_option maxRecDepth 100000 in
set_option maxHeartbeats 4000000 in
theorem c_X3_leaveGate {G : GG} {kn : Nat} {f : MM} {p n : Nat} (hp : isP kn p) (hn : n ≤ 6) (h1 : f p 1 = nI n) {ru mi : Int32} : CV G mX3_leaveGate 3 kn [.ref (G.1 + p), .int ru, .int mi] f (C_leave f p n ru mi) := by
  refine Ct.of [some (.ref (G.1 + p)), some (.int ru), some (.int mi), none, none, none] rfl (by decide +kernel) rfl (Nat.le_of_ble_eq_true rfl) rfl ?_
  intro X C
  refine r_aload_n (pc := 0) C dX3_leaveGate_0 rfl ?_
  refine q_vIf (pc := 1) C kX3_54 dX3_leaveGate_1 (c_X3_firstCame hp hn h1) (p_0 hp) rfl rfl (Nat.le_of_ble_eq_true rfl) (by decide) ⟨by decide, by decide⟩ ?_
  refine r_istore_n (pc := 4) C dX3_leaveGate_4 (by decide) rfl ?_
  refine r_aload_n (pc := 5) C dX3_leaveGate_5 rfl ?_
  refine q_vIf (pc := 6) C kX3_57 dX3_leaveGate_6 (c_X3_lastCame hp hn h1) (p_0 hp) rfl rfl (Nat.le_of_ble_eq_true rfl) (by decide) ⟨by decide, by decide⟩ ?_
  refine r_istore (pc := 9) C dX3_leaveGate_9 (by decide) rfl ?_
  refine r_iconst (pc := 11) C (0) dX3_leaveGate_11 (by decide) ?_
  refine r_istore (pc := 12) C dX3_leaveGate_12 (by decide) rfl ?_
  refine q_f (f' := mapK (lvF (f p 2) ru mi (fcI (clk f p 6) (f p 2) n) (lastI (clk f p 6) (f p 2) n)) p 0 f) mapK_0.symm ?_
  refine l_leaveGate C hp hn h1 ?_ n 0 (by omega)
  refine q_vret (pc := 66) C dX3_leaveGate_66 rfl ?_
  rfl
def bcF (f : MM) (q w : Nat) (r : Nat → Int32) : Nat → Int32 := rowB r (f (q + 2 + w))
def C_pbec (f : MM) (p q n : Nat) : MM := mapK (bcF f q) p n (u2 (u2 f p 1 (f q 1)) p 2 (f q 2))
set_option maxRecDepth 100000 in
set_option maxHeartbeats 4000000 in
theorem l_pbec {X : XT} {G : GG} {kn : Nat} {Q : State → Prop} {f : MM} {p n : Nat} {q : Nat} (C : Cx X G mX3_become 2 0 0 (NN kn)) (hp : isP kn p) (hn : n ≤ 6) (h1 : (u2 (u2 f p 1 (f q 1)) p 2 (f q 2)) p 1 = nI n) (hq : isP kn q) (ap : q + 8 ≤ p ∨ p + 8 ≤ q) (K : Vw X G mX3_become.2.2.2.1 0 0 Q (NN kn) (shF kn) (mapK (bcF f q) p n (u2 (u2 f p 1 (f q 1)) p 2 (f q 2))) 47 [some (.ref (G.1 + p)), some (.ref (G.1 + q)), some (.int (nI n))] []) : ∀ (m i : Nat), i + m = n → Vw X G mX3_become.2.2.2.1 0 0 Q (NN kn) (shF kn) (mapK (bcF f q) p i (u2 (u2 f p 1 (f q 1)) p 2 (f q 2))) 18 [some (.ref (G.1 + p)), some (.ref (G.1 + q)), some (.int (nI i))] [] := by
  intro m
  induction m with
  | zero =>
    intro i hm
    obtain rfl : n = i := by omega
    refine r_iload_n (pc := 18) C dX3_become_18 rfl ?_
    refine r_aload_n (pc := 19) C dX3_become_19 rfl ?_
    refine r_get (pc := 20) C fX3_22 dX3_become_20 (p_0 hp) rfl ?_
    refine q_ge (pc := 23) C n n 47 rfl (by rw [mapK_lo (by omega)]; exact h1) (by omega) (by omega) dX3_become_23 (by decide) (fun c23 => ?_) (fun c23 => ?_)
    · exact K
    · exact absurd c23 (by omega)
  | succ m ih =>
    intro i hm
    refine r_iload_n (pc := 18) C dX3_become_18 rfl ?_
    refine r_aload_n (pc := 19) C dX3_become_19 rfl ?_
    refine r_get (pc := 20) C fX3_22 dX3_become_20 (p_0 hp) rfl ?_
    refine q_ge (pc := 23) C i n 47 rfl (by rw [mapK_lo (by omega)]; exact h1) (by omega) (by omega) dX3_become_23 (by decide) (fun c23 => ?_) (fun c23 => ?_)
    · exact absurd c23 (by omega)
    · refine r_aload_n (pc := 26) C dX3_become_26 rfl ?_
      refine r_getr (pc := 27) C fX3_11 dX3_become_27 (p_0 hp) rfl (p_t0 hp) ?_
      refine r_iload_n (pc := 30) C dX3_become_30 rfl ?_
      refine q_aald (pc := 31) C i dX3_become_31 (p_1 hp) (by decide) (p_1n hp) rfl (by omega) (by decide) (p_1t hp (by omega)) ?_
      refine r_aload_n (pc := 32) C dX3_become_32 rfl ?_
      refine r_getr (pc := 33) C fX3_11 dX3_become_33 (p_0 hq) rfl (p_t0 hq) ?_
      refine r_iload_n (pc := 36) C dX3_become_36 rfl ?_
      refine q_aald (pc := 37) C i dX3_become_37 (p_1 hq) (by decide) (p_1n hq) rfl (by omega) (by decide) (p_1t hq (by omega)) ?_
      refine q_vVf (pc := 38) C kX3_25 dX3_become_38 (c_X6_become (isK.of hp (by omega)) (isK.of hq (by omega)) (by omega)) (k_0 (isK.of hp (by omega))) rfl rfl (Nat.le_of_ble_eq_true rfl) (by decide) ⟨by decide, by decide⟩ ?_
      refine r_iinc (pc := 41) C (nI (i + 1)) dX3_become_41 rfl (nI_inc _) (by decide) rfl ?_
      refine r_goto (pc := 44) C 18 dX3_become_44 (by decide) ?_
      refine q_f (f' := mapK (bcF f q) p (i + 1) (u2 (u2 f p 1 (f q 1)) p 2 (f q 2))) (by rw [← mapK_st]; simp only [bcF]; rw [mapK_at, show mapK (bcF f q) p i (u2 (u2 f p 1 (f q 1)) p 2 (f q 2)) (q + 2 + i) = f (q + 2 + i) by (rcases ap with z | z <;> first | rw [mapK_lo (by omega)] | rw [mapK_hi (by omega)]) <;> (rw [u2_row (by omega), u2_row (by omega)])]) ?_
      exact v_drop _ (by repeat (first | exact trivial | exact rfl | constructor)) (ih (i + 1) (by omega))
set_option maxRecDepth 100000 in
set_option maxHeartbeats 4000000 in
theorem c_X3_become {G : GG} {kn : Nat} {f : MM} {p q n : Nat} (hp : isP kn p) (hq : isP kn q) (ap : q + 8 ≤ p ∨ p + 8 ≤ q) (hn : n ≤ 6) (h1 : f q 1 = nI n) : CV G mX3_become 2 kn [.ref (G.1 + p), .ref (G.1 + q)] f (C_pbec f p q n) := by
  refine Ct.of [some (.ref (G.1 + p)), some (.ref (G.1 + q)), none] rfl (by decide +kernel) rfl (Nat.le_of_ble_eq_true rfl) rfl ?_
  intro X C
  refine r_aload_n (pc := 0) C dX3_become_0 rfl ?_
  refine r_aload_n (pc := 1) C dX3_become_1 rfl ?_
  refine r_get (pc := 2) C fX3_22 dX3_become_2 (p_0 hq) rfl ?_
  refine r_put (pc := 5) C fX3_22 ftX3_1 dX3_become_5 (p_0 hp) rfl ?_
  refine r_aload_n (pc := 8) C dX3_become_8 rfl ?_
  refine r_aload_n (pc := 9) C dX3_become_9 rfl ?_
  refine r_get (pc := 10) C fX3_17 dX3_become_10 (p_0 hq) rfl ?_
  refine q_val (f q 2) (by rw [u2_row (by omega)]) ?_
  refine r_put (pc := 13) C fX3_17 ftX3_2 dX3_become_13 (p_0 hp) rfl ?_
  refine r_iconst (pc := 16) C (0) dX3_become_16 (by decide) ?_
  refine r_istore_n (pc := 17) C dX3_become_17 (by decide) rfl ?_
  refine q_f (f' := mapK (bcF f q) p 0 (u2 (u2 f p 1 (f q 1)) p 2 (f q 2))) mapK_0.symm ?_
  refine l_pbec C hp hn (by simp [u2, h1]) hq ap ?_ n 0 (by omega)
  refine q_vret (pc := 47) C dX3_become_47 rfl ?_
  rfl
def rowY (t r : Nat → Int32) : Nat → Int32 := upd (upd (upd (upd (upd (upd t 2 (r 2)) 3 (r 3)) 4 (r 4)) 5 (r 5)) 6 (r 6)) 7 (r 7)
theorem rowY_in {t r : Nat → Int32} {j : Nat} (h : 2 ≤ j ∧ j < 8) : rowY t r j = r j := by
  have : j = 2 ∨ j = 3 ∨ j = 4 ∨ j = 5 ∨ j = 6 ∨ j = 7 := by omega
  rcases this with rfl | rfl | rfl | rfl | rfl | rfl <;> simp [rowY, upd]
def C_wbec (f : MM) (o a n : Nat) : MM := C_pbec (va_up (va_up f o (rowY (f o) (f a))) (o + 1) (va_cpy (f (a + 1)) (f (o + 1)) 0 0 8)) (o + 2) (a + 2) n
set_option maxRecDepth 100000 in
set_option maxHeartbeats 4000000 in
theorem c_X7_become {G : GG} {kn : Nat} {f : MM} {o a n : Nat} (ho : isW kn o) (ha : isW kn a) (ap : a + 10 ≤ o ∨ o + 10 ≤ a) (hn : n ≤ 6) (h1 : f (a + 2) 1 = nI n) (ht : f a 2 = 0 ∨ f a 2 = 1) : CV G mX7_become 3 kn [.ref (G.1 + o), .ref (G.1 + a)] f (C_wbec f o a n) := by
  refine Ct.of [some (.ref (G.1 + o)), some (.ref (G.1 + a))] rfl (by decide +kernel) rfl (Nat.le_of_ble_eq_true rfl) rfl ?_
  intro X C
  refine r_aload_n (pc := 0) C dX7_become_0 rfl ?_
  refine r_aload_n (pc := 1) C dX7_become_1 rfl ?_
  refine r_get (pc := 2) C fX7_22 dX7_become_2 (w_0 ha) rfl ?_
  refine r_putz (pc := 5) C fX7_22 ftX7_2 dX7_become_5 (w_0 ho) rfl ht ?_
  refine r_aload_n (pc := 8) C dX7_become_8 rfl ?_
  refine r_aload_n (pc := 9) C dX7_become_9 rfl ?_
  refine r_get (pc := 10) C fX7_26 dX7_become_10 (w_0 ha) rfl ?_
  refine r_put (pc := 13) C fX7_26 ftX7_3 dX7_become_13 (w_0 ho) rfl ?_
  refine r_aload_n (pc := 16) C dX7_become_16 rfl ?_
  refine r_aload_n (pc := 17) C dX7_become_17 rfl ?_
  refine r_get (pc := 18) C fX7_30 dX7_become_18 (w_0 ha) rfl ?_
  refine r_put (pc := 21) C fX7_30 ftX7_4 dX7_become_21 (w_0 ho) rfl ?_
  refine r_aload_n (pc := 24) C dX7_become_24 rfl ?_
  refine r_aload_n (pc := 25) C dX7_become_25 rfl ?_
  refine r_get (pc := 26) C fX7_33 dX7_become_26 (w_0 ha) rfl ?_
  refine r_put (pc := 29) C fX7_33 ftX7_5 dX7_become_29 (w_0 ho) rfl ?_
  refine r_aload_n (pc := 32) C dX7_become_32 rfl ?_
  refine r_aload_n (pc := 33) C dX7_become_33 rfl ?_
  refine r_get (pc := 34) C fX7_36 dX7_become_34 (w_0 ha) rfl ?_
  refine r_put (pc := 37) C fX7_36 ftX7_6 dX7_become_37 (w_0 ho) rfl ?_
  refine r_aload_n (pc := 40) C dX7_become_40 rfl ?_
  refine r_aload_n (pc := 41) C dX7_become_41 rfl ?_
  refine r_get (pc := 42) C fX7_39 dX7_become_42 (w_0 ha) rfl ?_
  refine r_put (pc := 45) C fX7_39 ftX7_7 dX7_become_45 (w_0 ho) rfl ?_
  refine q_f (f' := va_up f o (rowY (f o) (f a))) (by simp only [rowY, u2_up, up_up, up_at, up_ne (show a ≠ o by omega)]) ?_
  refine r_aload_n (pc := 48) C dX7_become_48 rfl ?_
  refine r_getr (pc := 49) C fX7_9 dX7_become_49 (w_0 ha) rfl (w_t0 ha) ?_
  refine r_iconst (pc := 52) C (0) dX7_become_52 (by decide) ?_
  refine r_aload_n (pc := 53) C dX7_become_53 rfl ?_
  refine r_getr (pc := 54) C fX7_9 dX7_become_54 (w_0 ho) rfl (w_t0 ho) ?_
  refine r_iconst (pc := 57) C (0) dX7_become_57 (by decide) ?_
  refine r_aload_n (pc := 58) C dX7_become_58 rfl ?_
  refine r_getr (pc := 59) C fX7_9 dX7_become_59 (w_0 ho) rfl (w_t0 ho) ?_
  refine r_alen (pc := 62) C (8) dX7_become_62 ⟨(w_1 ho).1, by rw [(w_1 ho).2]; decide, by rw [(w_1 ho).2]; decide⟩ (w_1n ho) rfl ?_
  refine r_copyi (pc := 63) C kcX7_42 dX7_become_63 (w_1 ha) (w_1n ha) (w_1 ho) (w_1n ho) (by decide) (by decide) (by decide) (by decide) (by decide) ⟨rfl, rfl⟩ (by decide) (Nat.le_of_ble_eq_true rfl) ?_
  refine q_f (f' := va_up (va_up f o (rowY (f o) (f a))) (o + 1) (va_cpy (f (a + 1)) (f (o + 1)) 0 0 8)) (by rw [up_ne (show a + 1 ≠ o by omega), up_ne (show o + 1 ≠ o by omega)]; rfl) ?_
  refine r_aload_n (pc := 66) C dX7_become_66 rfl ?_
  refine r_getr (pc := 67) C fX7_18 dX7_become_67 (w_0 ho) rfl (w_t1 ho) ?_
  refine r_aload_n (pc := 70) C dX7_become_70 rfl ?_
  refine r_getr (pc := 71) C fX7_18 dX7_become_71 (w_0 ha) rfl (w_t1 ha) ?_
  refine q_vVf (pc := 74) C kX7_48 dX7_become_74 (c_X3_become (n := n) (isP.way ho) (isP.way ha) (by omega) hn (by rw [up_ne (by omega), up_ne (by omega)]; exact h1)) (p_0 (isP.way ho)) rfl rfl (Nat.le_of_ble_eq_true rfl) (by decide) ⟨by decide, by decide⟩ ?_
  refine q_vret (pc := 77) C dX7_become_77 rfl ?_
  rfl
def C_move (f : MM) (o p n L leg : Nat) (ru mi : Int32) : MM := C_leave (C_walk f p n (f (o + 1) leg)) p n (if leg + 1 < L then ru else 3) mi
theorem C_walk_p {f : MM} {p n k : Nat} {m : Int32} (h : k < p + 2 ∨ p + 2 + n ≤ k) : C_walk f p n m k = f k := by
  unfold C_walk
  rcases h with h | h
  · exact mapK_lo h
  · exact mapK_hi h
theorem C_leave_p {f : MM} {p n k : Nat} {r m : Int32} (h : k < p + 2 ∨ p + 2 + n ≤ k) : C_leave f p n r m k = f k := by
  unfold C_leave
  rcases h with h | h
  · exact mapK_lo h
  · exact mapK_hi h
theorem C_move_p {f : MM} {o p n L leg k : Nat} {r m : Int32} (h : k < p + 2 ∨ p + 2 + n ≤ k) : C_move f o p n L leg r m k = f k := by
  unfold C_move
  rw [C_leave_p h, C_walk_p h]
set_option maxRecDepth 100000 in
set_option maxHeartbeats 4000000 in
theorem c_X7_move {G : GG} {kn : Nat} {f : MM} {o p n L leg : Nat} (ho : isW kn o) (hp : isP kn p) (hn : n ≤ 6) (hl : leg < 8) (hL : L ≤ 8) (h1 : f p 1 = nI n) (h3 : f o 3 = nI L) {ru mi : Int32} (hf : ∀ w, w < n → hasB (f p 2) w = true → fitW (f (p + 2 + w))) : CV G mX7_move 4 kn [.ref (G.1 + o), .ref (G.1 + p), .int (nI leg), .int ru, .int mi] f (C_move f o p n L leg ru mi) := by
  refine Ct.of [some (.ref (G.1 + o)), some (.ref (G.1 + p)), some (.int (nI leg)), some (.int ru), some (.int mi), none] rfl (by decide +kernel) rfl (Nat.le_of_ble_eq_true rfl) rfl ?_
  intro X C
  refine r_iload_n (pc := 0) C dX7_move_0 rfl ?_
  refine r_iconst (pc := 1) C (1) dX7_move_1 (by decide) ?_
  refine r_iadd (pc := 2) C dX7_move_2 ?_
  refine r_aload_n (pc := 3) C dX7_move_3 rfl ?_
  refine r_get (pc := 4) C fX7_26 dX7_move_4 (w_0 ho) rfl ?_
  refine q_lt (pc := 7) C (leg + 1) L 14 (nI_add leg 1) h3 (by omega) (by omega) dX7_move_7 (by decide) (fun c7 => ?_) (fun c7 => ?_)
  · refine r_iconst (pc := 14) C (0) dX7_move_14 (by decide) ?_
    refine r_istore (pc := 15) C dX7_move_15 (by decide) rfl ?_
    refine r_aload_n (pc := 17) C dX7_move_17 rfl ?_
    refine r_aload_n (pc := 18) C dX7_move_18 rfl ?_
    refine r_getr (pc := 19) C fX7_9 dX7_move_19 (w_0 ho) rfl (w_t0 ho) ?_
    refine r_iload_n (pc := 22) C dX7_move_22 rfl ?_
    refine q_iald (pc := 23) C leg dX7_move_23 (w_1 ho) (w_1n ho) rfl (by omega) (by decide) ?_
    refine q_vVf (pc := 24) C kX7_52 dX7_move_24 (c_X3_walkLeg hp hn h1 hf) (p_0 hp) rfl rfl (Nat.le_of_ble_eq_true rfl) (by decide) ⟨by decide, by decide⟩ ?_
    refine r_aload_n (pc := 27) C dX7_move_27 rfl ?_
    refine r_iload (pc := 28) C dX7_move_28 rfl ?_
    refine r_if_eq (pc := 30) C 37 dX7_move_30 (by decide) (fun c30 => ?_) (fun c30 => ?_)
    · refine r_iload_n (pc := 37) C dX7_move_37 rfl ?_
      refine r_iload (pc := 38) C dX7_move_38 rfl ?_
      refine q_vVf (pc := 40) C kX7_56 dX7_move_40 (c_X3_leaveGate (n := n) hp hn (by rw [C_walk_p (by omega)]; exact h1)) (p_0 hp) rfl rfl (Nat.le_of_ble_eq_true rfl) (by decide) ⟨by decide, by decide⟩ ?_
      refine q_vret (pc := 43) C dX7_move_43 rfl ?_
      show _ = _
      simp only [C_move]
      first | rw [if_pos c7] | rw [if_neg (by omega)]
    · exact absurd rfl c30
  · refine r_iconst (pc := 10) C (1) dX7_move_10 (by decide) ?_
    refine r_goto (pc := 11) C 15 dX7_move_11 (by decide) ?_
    refine r_istore (pc := 15) C dX7_move_15 (by decide) rfl ?_
    refine r_aload_n (pc := 17) C dX7_move_17 rfl ?_
    refine r_aload_n (pc := 18) C dX7_move_18 rfl ?_
    refine r_getr (pc := 19) C fX7_9 dX7_move_19 (w_0 ho) rfl (w_t0 ho) ?_
    refine r_iload_n (pc := 22) C dX7_move_22 rfl ?_
    refine q_iald (pc := 23) C leg dX7_move_23 (w_1 ho) (w_1n ho) rfl (by omega) (by decide) ?_
    refine q_vVf (pc := 24) C kX7_52 dX7_move_24 (c_X3_walkLeg hp hn h1 hf) (p_0 hp) rfl rfl (Nat.le_of_ble_eq_true rfl) (by decide) ⟨by decide, by decide⟩ ?_
    refine r_aload_n (pc := 27) C dX7_move_27 rfl ?_
    refine r_iload (pc := 28) C dX7_move_28 rfl ?_
    refine r_if_eq (pc := 30) C 37 dX7_move_30 (by decide) (fun c30 => ?_) (fun c30 => ?_)
    · exact absurd c30 (by decide)
    · refine r_iconst (pc := 33) C (3) dX7_move_33 (by decide) ?_
      refine r_goto (pc := 34) C 38 dX7_move_34 (by decide) ?_
      refine r_iload (pc := 38) C dX7_move_38 rfl ?_
      refine q_vVf (pc := 40) C kX7_56 dX7_move_40 (c_X3_leaveGate (n := n) hp hn (by rw [C_walk_p (by omega)]; exact h1)) (p_0 hp) rfl rfl (Nat.le_of_ble_eq_true rfl) (by decide) ⟨by decide, by decide⟩ ?_
      refine q_vret (pc := 43) C dX7_move_43 rfl ?_
      show _ = _
      simp only [C_move]
      first | rw [if_pos c7] | rw [if_neg (by omega)]
