/-! THE CLASS SEARCHES -/
theorem sr.zero {f h : MM} {v : Nat → Int32} {lo : Int} (a : agC f h) : sr f (u2 (u2 h 27 5 1000000000) 27 6 0) v lo 0 := ⟨(a.u2 (by omega)).u2 (by omega), by simp [u2, clI, nI_0], by simp [u2, clI], fun j hj => by omega⟩
theorem nI_in30 {k : Nat} (h : k ≤ 30) : 0 ≤ (nI k).toInt ∧ (nI k).toInt ≤ 30 := by
  rw [nI_toInt (by omega)]
  omega
def agK (f h : MM) : Prop := agC f h
set_option maxRecDepth 100000 in
set_option maxHeartbeats 4000000 in
theorem l_findSoonest {X : XT} {G : GG} {kn : Nat} {Q : State → Prop} {f : MM} {n L g : Nat} (C : Cx X G mX2_findSoonest 7 0 0 (NN kn)) (N : Now f n L g) (K : ∀ h : MM, (fun k h => sr f h (soV n L g (f 89)) 0 k) n124 h → Vw X G mX2_findSoonest.2.2.2.1 0 0 Q (NN kn) (shF kn) h 44 [some (.ref (G.1 + 27)), some (.ref (G.1 + 4)), some (.int (nI n124))] []) : ∀ (m i : Nat) (h : MM), i + m = n124 → (fun k h => sr f h (soV n L g (f 89)) 0 k) i h → Vw X G mX2_findSoonest.2.2.2.1 0 0 Q (NN kn) (shF kn) h 6 [some (.ref (G.1 + 27)), some (.ref (G.1 + 4)), some (.int (nI i))] [] := by
  intro m
  induction m with
  | zero =>
    intro i h hm hh
    obtain rfl : n124 = i := by omega
    have hN := n124_eq
    refine r_iload_n (pc := 6) C dX2_findSoonest_6 rfl ?_
    refine r_bipush (pc := 7) C (124) dX2_findSoonest_7 (by decide) ?_
    refine q_ge (pc := 9) C n124 124 44 rfl rfl (by omega) (by omega) dX2_findSoonest_9 (by decide) (fun c9 => ?_) (fun c9 => ?_)
    · exact K _ hh
    · exact absurd c9 (by omega)
  | succ m ih =>
    intro i h hm hh
    have hN := n124_eq
    refine r_iload_n (pc := 6) C dX2_findSoonest_6 rfl ?_
    refine r_bipush (pc := 7) C (124) dX2_findSoonest_7 (by decide) ?_
    refine q_ge (pc := 9) C i 124 44 rfl rfl (by omega) (by omega) dX2_findSoonest_9 (by decide) (fun c9 => ?_) (fun c9 => ?_)
    · exact absurd c9 (by omega)
    · refine r_iload_n (pc := 12) C dX2_findSoonest_12 rfl ?_
      refine q_sIf (pc := 13) C kX2_67 dX2_findSoonest_13 (c_X2_isApart (k := i) (by omega)) rfl rfl (Nat.le_of_ble_eq_true rfl) (by decide) ⟨by decide, by decide⟩ ?_
      refine r_if_eq (pc := 16) C 38 dX2_findSoonest_16 (by decide) (fun c16 => ?_) (fun c16 => ?_)
      · replace c16 := b1_0 c16
        refine r_iinc (pc := 38) C (nI (i + 1)) dX2_findSoonest_38 rfl (nI_inc _) (by decide) rfl ?_
        refine r_goto (pc := 41) C 6 dX2_findSoonest_41 (by decide) ?_
        exact ih (i + 1) _ (by omega) (hh.no c16)
      · replace c16 := b1_1 c16
        refine r_aload_n (pc := 19) C dX2_findSoonest_19 rfl ?_
        refine r_aload_n (pc := 20) C dX2_findSoonest_20 rfl ?_
        refine r_aload_n (pc := 21) C dX2_findSoonest_21 rfl ?_
        refine r_iload_n (pc := 22) C dX2_findSoonest_22 rfl ?_
        refine r_bipush (pc := 23) C (31) dX2_findSoonest_23 (by decide) ?_
        refine r_idiv (pc := 25) C dX2_findSoonest_25 (by decide) ?_
        refine q_is (i / 31) (div31 (by omega)) ?_
        refine r_iload_n (pc := 26) C dX2_findSoonest_26 rfl ?_
        refine r_bipush (pc := 27) C (31) dX2_findSoonest_27 (by decide) ?_
        refine r_irem (pc := 29) C dX2_findSoonest_29 (by decide) ?_
        refine q_is (i % 31) (rem31 (by omega)) ?_
        refine q_vI (pc := 30) C kX2_71 dX2_findSoonest_30 (c_X2_walkToHut (N.ag hh.1) (nI_in30 (by omega))) (s_27 _) rfl rfl (Nat.le_of_ble_eq_true rfl) (by decide) ⟨by decide, by decide⟩ ?_
        intro v30 f30 h30
        refine r_iload_n (pc := 33) C dX2_findSoonest_33 rfl ?_
        refine q_vIf (pc := 34) C kX2_74 dX2_findSoonest_34 (c_X2_keepIfLess) (s_27 _) rfl rfl (Nat.le_of_ble_eq_true rfl) (by decide) ⟨by decide, by decide⟩ ?_
        refine r_pop (pc := 37) C dX2_findSoonest_37 rfl ?_
        refine r_iinc (pc := 38) C (nI (i + 1)) dX2_findSoonest_38 rfl (nI_inc _) (by decide) rfl ?_
        refine r_goto (pc := 41) C 6 dX2_findSoonest_41 (by decide) ?_
        obtain ⟨l2, hl2, hP⟩ := h30.2.1
        rw [hh.1 89 (by omega)] at hP
        have hv : v30 = soV n L g (f 89) i := by rw [h30.1, hh.1 89 (by omega)]; rfl
        have hb : 0 ≤ (soV n L g (f 89) i).toInt ∧ (soV n L g (f 89) i).toInt ≤ 100000 := by have q := hP.lastok (t := allI n) hl2; exact ⟨q.1, Int.le_trans q.2 (by decide)⟩
        exact ih (i + 1) _ (by omega) (hh.yes c16 (hh.1.trans h30.2.2.toC) (h30.2.2 27 (by omega)) hv hb)
set_option maxRecDepth 100000 in
set_option maxHeartbeats 4000000 in
theorem c_X2_findSoonest {G : GG} {kn : Nat} {f : MM} {n L g : Nat} (N : Now f n L g) : RV G mX2_findSoonest 7 kn [.ref (G.1 + 27), .ref (G.1 + 4)] f (fun g2 => sr f g2 (soV n L g (f 89)) 0 n124) := by
  refine Ct.of [some (.ref (G.1 + 27)), some (.ref (G.1 + 4)), none] rfl (by decide +kernel) rfl (Nat.le_of_ble_eq_true rfl) rfl ?_
  intro X C
  refine r_aload_n (pc := 0) C dX2_findSoonest_0 rfl ?_
  refine q_vVf (pc := 1) C kX2_64 dX2_findSoonest_1 (c_X2_startSearch) (s_27 _) rfl rfl (Nat.le_of_ble_eq_true rfl) (by decide) ⟨by decide, by decide⟩ ?_
  refine r_iconst (pc := 4) C (0) dX2_findSoonest_4 (by decide) ?_
  refine r_istore_n (pc := 5) C dX2_findSoonest_5 (by decide) rfl ?_
  refine l_findSoonest C N ?_ n124 0 _ (Nat.zero_add _) (sr.zero agC.rf)
  intro h hh
  refine q_vret (pc := 44) C dX2_findSoonest_44 rfl ?_
  exact hh
def glI (t u : Nat → Int32) : Nat → Int32
  | 0 => -1000000000
  | k + 1 => if t k - u k ≤ glI t u k then glI t u k else t k - u k
theorem gl_mo {t u : Nat → Int32} : ∀ k, (∀ w, w ≤ k → -100000 ≤ (t w - u w).toInt) → glI t u (k + 1) = moI t u k := by
  intro k
  induction k with
  | zero =>
    intro h
    have b := h 0 (by omega)
    have z : (-1000000000 : Int32).toInt = -1000000000 := by decide
    show (if t 0 - u 0 ≤ glI t u 0 then glI t u 0 else t 0 - u 0) = t 0 - u 0
    have e : glI t u 0 = -1000000000 := rfl
    rw [e, if_neg (by rw [ti_le]; omega)]
  | succ k ih =>
    intro h
    have i := ih (fun w hw => h w (by omega))
    show (if t (k + 1) - u (k + 1) ≤ glI t u (k + 1) then glI t u (k + 1) else t (k + 1) - u (k + 1)) = _
    rw [i]
    rfl
set_option maxRecDepth 100000 in
set_option maxHeartbeats 4000000 in
theorem l_greatest {X : XT} {G : GG} {kn : Nat} {Q : State → Prop} {f : MM} {n : Nat} (C : Cx X G mX2_greatestLoss 2 0 0 (NN kn)) (hn : n ≤ 6) (h1 : f 28 1 = nI n) (K : Vw X G mX2_greatestLoss.2.2.2.1 0 0 Q (NN kn) (shF kn) f 46 [some (.ref (G.1 + 27)), some (.int (glI (fun w => f (30 + w) 4) (f 44) n)), some (.int (nI n))] []) : ∀ (m i : Nat), i + m = n → Vw X G mX2_greatestLoss.2.2.2.1 0 0 Q (NN kn) (shF kn) f 5 [some (.ref (G.1 + 27)), some (.int (glI (fun w => f (30 + w) 4) (f 44) i)), some (.int (nI i))] [] := by
  intro m
  induction m with
  | zero =>
    intro i hm
    obtain rfl : n = i := by omega
    refine r_iload_n (pc := 5) C dX2_greatestLoss_5 rfl ?_
    refine r_aload_n (pc := 6) C dX2_greatestLoss_6 rfl ?_
    refine r_getr (pc := 7) C fX2_12 dX2_greatestLoss_7 (s_27 _) rfl rfl ?_
    refine r_get (pc := 10) C fX2_78 dX2_greatestLoss_10 (p_0 isP.go) rfl ?_
    refine q_ge (pc := 13) C n n 46 rfl h1 (by omega) (by omega) dX2_greatestLoss_13 (by decide) (fun c13 => ?_) (fun c13 => ?_)
    · exact K
    · exact absurd c13 (by omega)
  | succ m ih =>
    intro i hm
    refine r_iload_n (pc := 5) C dX2_greatestLoss_5 rfl ?_
    refine r_aload_n (pc := 6) C dX2_greatestLoss_6 rfl ?_
    refine r_getr (pc := 7) C fX2_12 dX2_greatestLoss_7 (s_27 _) rfl rfl ?_
    refine r_get (pc := 10) C fX2_78 dX2_greatestLoss_10 (p_0 isP.go) rfl ?_
    refine q_ge (pc := 13) C i n 46 rfl h1 (by omega) (by omega) dX2_greatestLoss_13 (by decide) (fun c13 => ?_) (fun c13 => ?_)
    · exact absurd c13 (by omega)
    · refine r_iload_n (pc := 16) C dX2_greatestLoss_16 rfl ?_
      refine r_aload_n (pc := 17) C dX2_greatestLoss_17 rfl ?_
      refine r_getr (pc := 18) C fX2_12 dX2_greatestLoss_18 (s_27 _) rfl rfl ?_
      refine r_getr (pc := 21) C fX2_81 dX2_greatestLoss_21 (p_0 isP.go) rfl (p_t0 isP.go) ?_
      refine r_iload_n (pc := 24) C dX2_greatestLoss_24 rfl ?_
      refine q_aald (pc := 25) C i dX2_greatestLoss_25 (p_1 isP.go) (by decide) (p_1n isP.go) rfl (by omega) (by decide) (p_1t isP.go (by omega)) ?_
      refine r_get (pc := 26) C fX2_85 dX2_greatestLoss_26 (k_0 (isK.of isP.go (by omega))) rfl ?_
      refine r_aload_n (pc := 29) C dX2_greatestLoss_29 rfl ?_
      refine r_getr (pc := 30) C fX2_21 dX2_greatestLoss_30 (s_27 _) rfl rfl ?_
      refine r_iload_n (pc := 33) C dX2_greatestLoss_33 rfl ?_
      refine q_iald (pc := 34) C i dX2_greatestLoss_34 (s_44 _) (sn_44 _) rfl (by omega) (by decide) ?_
      refine r_isub (pc := 35) C dX2_greatestLoss_35 ?_
      refine r_mmax (pc := 36) C kX2_94 dX2_greatestLoss_36 (by decide) (Nat.le_of_ble_eq_true rfl) ⟨by decide, by decide⟩ kmX2_94 ?_
      refine q_val (glI (fun w => f (30 + w) 4) (f 44) (i + 1)) (mx_le _ _) ?_
      refine r_istore_n (pc := 39) C dX2_greatestLoss_39 (by decide) rfl ?_
      refine r_iinc (pc := 40) C (nI (i + 1)) dX2_greatestLoss_40 rfl (nI_inc _) (by decide) rfl ?_
      refine r_goto (pc := 43) C 5 dX2_greatestLoss_43 (by decide) ?_
      exact ih (i + 1) (by omega)
set_option maxRecDepth 100000 in
set_option maxHeartbeats 4000000 in
theorem c_X2_greatestLoss {G : GG} {kn : Nat} {f : MM} {n : Nat} (hn : n ≤ 6) (h1 : f 28 1 = nI n) : CI G mX2_greatestLoss 2 kn [.ref (G.1 + 27)] f (glI (fun w => f (30 + w) 4) (f 44) n) f := by
  refine Ct.of [some (.ref (G.1 + 27)), none, none] rfl (by decide +kernel) rfl (Nat.le_of_ble_eq_true rfl) rfl ?_
  intro X C
  refine r_ldc (pc := 0) C (-1000000000) kX2_93 dX2_greatestLoss_0 ?_
  refine r_istore_n (pc := 2) C dX2_greatestLoss_2 (by decide) rfl ?_
  refine r_iconst (pc := 3) C (0) dX2_greatestLoss_3 (by decide) ?_
  refine r_istore_n (pc := 4) C dX2_greatestLoss_4 (by decide) rfl ?_
  refine l_greatest C hn h1 ?_ n 0 (by omega)
  refine r_iload_n (pc := 46) C dX2_greatestLoss_46 rfl ?_
  refine q_iret (pc := 47) C dX2_greatestLoss_47 rfl ?_
  exact ⟨rfl, rfl⟩
def fairI (f h : MM) (n L g k : Nat) : Prop := sr f h (faV n L g (f 89)) (-100000) k ∧ ∀ w, w < n → h 44 w = hutV n L g (f 89) 3 0 (38 + w)
theorem sub_in {x y : Int32} (hx : 0 ≤ x.toInt ∧ x.toInt ≤ 40000) (hy : 0 ≤ y.toInt ∧ y.toInt ≤ 40000) : -100000 ≤ (x - y).toInt ∧ (x - y).toInt ≤ 100000 := by
  rw [ti_sub (by omega) (by omega)]
  omega
theorem moI_in {t u : Nat → Int32} : ∀ k, (∀ w, w ≤ k → -100000 ≤ (t w - u w).toInt ∧ (t w - u w).toInt ≤ 100000) → -100000 ≤ (moI t u k).toInt ∧ (moI t u k).toInt ≤ 100000 := by
  intro k
  induction k with
  | zero => intro h; exact h 0 (by omega)
  | succ k ih =>
    intro h
    unfold moI
    split
    · exact ih (fun w hw => h w (by omega))
    · exact h (k + 1) (by omega)
set_option maxRecDepth 100000 in
set_option maxHeartbeats 4000000 in
theorem l_findFair {X : XT} {G : GG} {kn : Nat} {Q : State → Prop} {f : MM} {n L g : Nat} (C : Cx X G mX2_findFair 7 0 0 (NN kn)) (N : Now f n L g) (h0 : 0 < n) (hA : ∀ w, w < n → 0 ≤ (hutV n L g (f 89) 3 0 (38 + w)).toInt ∧ (hutV n L g (f 89) 3 0 (38 + w)).toInt ≤ 40000) (K : ∀ h : MM, (fun k h => fairI f h n L g k) n124 h → Vw X G mX2_findFair.2.2.2.1 0 0 Q (NN kn) (shF kn) h 94 [some (.ref (G.1 + 27)), some (.ref (G.1 + 4)), some (.int (nI n124))] []) : ∀ (m i : Nat) (h : MM), i + m = n124 → (fun k h => fairI f h n L g k) i h → Vw X G mX2_findFair.2.2.2.1 0 0 Q (NN kn) (shF kn) h 51 [some (.ref (G.1 + 27)), some (.ref (G.1 + 4)), some (.int (nI i))] [] := by
  intro m
  induction m with
  | zero =>
    intro i h hm hh
    obtain rfl : n124 = i := by omega
    have hN := n124_eq
    refine r_iload_n (pc := 51) C dX2_findFair_51 rfl ?_
    refine r_bipush (pc := 52) C (124) dX2_findFair_52 (by decide) ?_
    refine q_ge (pc := 54) C n124 124 94 rfl rfl (by omega) (by omega) dX2_findFair_54 (by decide) (fun c54 => ?_) (fun c54 => ?_)
    · exact K _ hh
    · exact absurd c54 (by omega)
  | succ m ih =>
    intro i h hm hh
    have hN := n124_eq
    refine r_iload_n (pc := 51) C dX2_findFair_51 rfl ?_
    refine r_bipush (pc := 52) C (124) dX2_findFair_52 (by decide) ?_
    refine q_ge (pc := 54) C i 124 94 rfl rfl (by omega) (by omega) dX2_findFair_54 (by decide) (fun c54 => ?_) (fun c54 => ?_)
    · exact absurd c54 (by omega)
    · refine r_iload_n (pc := 57) C dX2_findFair_57 rfl ?_
      refine q_sIf (pc := 58) C kX2_67 dX2_findFair_58 (c_X2_isApart (k := i) (by omega)) rfl rfl (Nat.le_of_ble_eq_true rfl) (by decide) ⟨by decide, by decide⟩ ?_
      refine r_if_eq (pc := 61) C 88 dX2_findFair_61 (by decide) (fun c61 => ?_) (fun c61 => ?_)
      · replace c61 := b1_0 c61
        refine r_iinc (pc := 88) C (nI (i + 1)) dX2_findFair_88 rfl (nI_inc _) (by decide) rfl ?_
        refine r_goto (pc := 91) C 51 dX2_findFair_91 (by decide) ?_
        exact ih (i + 1) _ (by omega) ⟨hh.1.no c61, hh.2⟩
      · replace c61 := b1_1 c61
        refine r_aload_n (pc := 64) C dX2_findFair_64 rfl ?_
        refine r_aload_n (pc := 65) C dX2_findFair_65 rfl ?_
        refine r_iload_n (pc := 66) C dX2_findFair_66 rfl ?_
        refine r_bipush (pc := 67) C (31) dX2_findFair_67 (by decide) ?_
        refine r_idiv (pc := 69) C dX2_findFair_69 (by decide) ?_
        refine q_is (i / 31) (div31 (by omega)) ?_
        refine r_iload_n (pc := 70) C dX2_findFair_70 rfl ?_
        refine r_bipush (pc := 71) C (31) dX2_findFair_71 (by decide) ?_
        refine r_irem (pc := 73) C dX2_findFair_73 (by decide) ?_
        refine q_is (i % 31) (rem31 (by omega)) ?_
        refine q_vI (pc := 74) C kX2_71 dX2_findFair_74 (c_X2_walkToHut (N.ag hh.1.1) (nI_in30 (by omega))) (s_27 _) rfl rfl (Nat.le_of_ble_eq_true rfl) (by decide) ⟨by decide, by decide⟩ ?_
        intro v74 f74 h74
        have q1 : f74 28 1 = nI n := by obtain ⟨l2, hl2, hP⟩ := h74.2.1; exact hP.1
        refine r_pop (pc := 77) C dX2_findFair_77 rfl ?_
        refine r_aload_n (pc := 78) C dX2_findFair_78 rfl ?_
        refine r_aload_n (pc := 79) C dX2_findFair_79 rfl ?_
        refine q_vIf (pc := 80) C kX2_90 dX2_findFair_80 (c_X2_greatestLoss N.hn q1) (s_27 _) rfl rfl (Nat.le_of_ble_eq_true rfl) (by decide) ⟨by decide, by decide⟩ ?_
        refine r_iload_n (pc := 83) C dX2_findFair_83 rfl ?_
        refine q_vIf (pc := 84) C kX2_74 dX2_findFair_84 (c_X2_keepIfLess) (s_27 _) rfl rfl (Nat.le_of_ble_eq_true rfl) (by decide) ⟨by decide, by decide⟩ ?_
        refine r_pop (pc := 87) C dX2_findFair_87 rfl ?_
        refine r_iinc (pc := 88) C (nI (i + 1)) dX2_findFair_88 rfl (nI_inc _) (by decide) rfl ?_
        refine r_goto (pc := 91) C 51 dX2_findFair_91 (by decide) ?_
        obtain ⟨l2, hl2, hP⟩ := h74.2.1
        rw [hh.1.1 89 (by omega)] at hP
        have hv : glI (fun w => f74 (30 + w) 4) (f74 44) n = faV n L g (f 89) i := by
          have hd : ∀ w, w < n → f74 (30 + w) 4 = hutV n L g (f 89) (nI (i / 31)) (nI (i % 31)) (38 + w) := fun w hw => hP.2.2.1 w hw 4 (by decide)
          have hu : ∀ w, w < n → f74 44 w = hutV n L g (f 89) 3 0 (38 + w) := fun w hw => by rw [h74.2.2 44 (by omega)]; exact hh.2 w hw
          have e : glI (fun w => f74 (30 + w) 4) (f74 44) (n - 1 + 1) = moI (fun w => f74 (30 + w) 4) (f74 44) (n - 1) := gl_mo (n - 1) (fun w hw => by rw [hd w (by omega), hu w (by omega)]; exact (sub_in (hP.ok hl2 w (by omega)) (hA w (by omega))).1)
          rw [show n - 1 + 1 = n by omega] at e
          rw [e]
          exact moI_congr (n - 1) (fun w hw => ⟨hd w (by omega), hu w (by omega)⟩)
        have hb : -100000 ≤ (faV n L g (f 89) i).toInt ∧ (faV n L g (f 89) i).toInt ≤ 100000 := moI_in (n - 1) (fun w hw => sub_in (hP.ok hl2 w (by omega)) (hA w (by omega)))
        refine ih (i + 1) _ (by omega) ⟨hh.1.yes c61 (hh.1.1.trans h74.2.2.toC) (h74.2.2 27 (by omega)) hv hb, fun w hw => ?_⟩
        have e44 : keepF f74 (glI (fun w => f74 (30 + w) 4) (f74 44) n) (nI i) 44 = f74 44 := by
          unfold keepF
          split
          · rw [u2_row (by decide), u2_row (by decide)]
          · rfl
        rw [e44, h74.2.2 44 (by omega)]
        exact hh.2 w hw
set_option maxRecDepth 100000 in
set_option maxHeartbeats 4000000 in
theorem l_alone {X : XT} {G : GG} {kn : Nat} {Q : State → Prop} {f : MM} {n : Nat} (C : Cx X G mX2_findFair 7 0 0 (NN kn)) (hn : n ≤ 6) (h1 : f 28 1 = nI n) (K : ∀ h : MM, (fun k h => h = fillM f 44 0 k (fun t => f (30 + t) 4)) n h → Vw X G mX2_findFair.2.2.2.1 0 0 Q (NN kn) (shF kn) h 45 [some (.ref (G.1 + 27)), some (.ref (G.1 + 4)), some (.int (nI n))] []) : ∀ (m i : Nat) (h : MM), i + m = n → (fun k h => h = fillM f 44 0 k (fun t => f (30 + t) 4)) i h → Vw X G mX2_findFair.2.2.2.1 0 0 Q (NN kn) (shF kn) h 10 [some (.ref (G.1 + 27)), some (.ref (G.1 + 4)), some (.int (nI i))] [] := by
  intro m
  induction m with
  | zero =>
    intro i h hm hh
    obtain rfl : n = i := by omega
    refine r_iload_n (pc := 10) C dX2_findFair_10 rfl ?_
    refine r_aload_n (pc := 11) C dX2_findFair_11 rfl ?_
    refine r_getr (pc := 12) C fX2_12 dX2_findFair_12 (s_27 _) rfl rfl ?_
    refine r_get (pc := 15) C fX2_78 dX2_findFair_15 (p_0 isP.go) rfl ?_
    refine q_ge (pc := 18) C n n 45 rfl (by rw [hh, fillM_row (by decide)]; exact h1) (by omega) (by omega) dX2_findFair_18 (by decide) (fun c18 => ?_) (fun c18 => ?_)
    · exact K _ hh
    · exact absurd c18 (by omega)
  | succ m ih =>
    intro i h hm hh
    refine r_iload_n (pc := 10) C dX2_findFair_10 rfl ?_
    refine r_aload_n (pc := 11) C dX2_findFair_11 rfl ?_
    refine r_getr (pc := 12) C fX2_12 dX2_findFair_12 (s_27 _) rfl rfl ?_
    refine r_get (pc := 15) C fX2_78 dX2_findFair_15 (p_0 isP.go) rfl ?_
    refine q_ge (pc := 18) C i n 45 rfl (by rw [hh, fillM_row (by decide)]; exact h1) (by omega) (by omega) dX2_findFair_18 (by decide) (fun c18 => ?_) (fun c18 => ?_)
    · exact absurd c18 (by omega)
    · refine r_aload_n (pc := 21) C dX2_findFair_21 rfl ?_
      refine r_getr (pc := 22) C fX2_21 dX2_findFair_22 (s_27 _) rfl rfl ?_
      refine r_iload_n (pc := 25) C dX2_findFair_25 rfl ?_
      refine r_aload_n (pc := 26) C dX2_findFair_26 rfl ?_
      refine r_getr (pc := 27) C fX2_12 dX2_findFair_27 (s_27 _) rfl rfl ?_
      refine r_getr (pc := 30) C fX2_81 dX2_findFair_30 (p_0 isP.go) rfl (p_t0 isP.go) ?_
      refine r_iload_n (pc := 33) C dX2_findFair_33 rfl ?_
      refine q_aald (pc := 34) C i dX2_findFair_34 (p_1 isP.go) (by decide) (p_1n isP.go) rfl (by omega) (by decide) (p_1t isP.go (by omega)) ?_
      refine r_get (pc := 35) C fX2_85 dX2_findFair_35 (k_0 (isK.of isP.go (by omega))) rfl ?_
      refine q_val (f (30 + i) 4) (by rw [hh, fillM_row (by omega)]) ?_
      refine q_iast (pc := 38) C i dX2_findFair_38 (s_44 _) (sn_44 _) rfl (by omega) (by decide) ?_
      refine r_iinc (pc := 39) C (nI (i + 1)) dX2_findFair_39 rfl (nI_inc _) (by decide) rfl ?_
      refine r_goto (pc := 42) C 10 dX2_findFair_42 (by decide) ?_
      refine ih (i + 1) _ (by omega) ?_
      rw [hh]
      exact fillM_step0 rfl
set_option maxRecDepth 100000 in
set_option maxHeartbeats 4000000 in
theorem c_X2_findFair {G : GG} {kn : Nat} {f : MM} {n L g : Nat} (N : Now f n L g) (h0 : 0 < n) : RV G mX2_findFair 7 kn [.ref (G.1 + 27), .ref (G.1 + 4)] f (fun g2 => sr f g2 (faV n L g (f 89)) (-100000) n124) := by
  refine Ct.of [some (.ref (G.1 + 27)), some (.ref (G.1 + 4)), none] rfl (by decide +kernel) rfl (Nat.le_of_ble_eq_true rfl) rfl ?_
  intro X C
  refine r_aload_n (pc := 0) C dX2_findFair_0 rfl ?_
  refine r_aload_n (pc := 1) C dX2_findFair_1 rfl ?_
  refine r_iconst (pc := 2) C (3) dX2_findFair_2 (by decide) ?_
  refine r_iconst (pc := 3) C (0) dX2_findFair_3 (by decide) ?_
  refine q_vI (pc := 4) C kX2_71 dX2_findFair_4 (c_X2_walkToHut N (by decide)) (s_27 _) rfl rfl (Nat.le_of_ble_eq_true rfl) (by decide) ⟨by decide, by decide⟩ ?_
  intro v4 f4 h4
  obtain ⟨l2, hl2, hP⟩ := h4.2.1
  refine r_pop (pc := 7) C dX2_findFair_7 rfl ?_
  refine r_iconst (pc := 8) C (0) dX2_findFair_8 (by decide) ?_
  refine r_istore_n (pc := 9) C dX2_findFair_9 (by decide) rfl ?_
  refine l_alone (f := f4) C N.hn hP.1 ?_ n 0 _ (by omega) fillM_0.symm
  intro h hh
  refine r_aload_n (pc := 45) C dX2_findFair_45 rfl ?_
  refine q_vVf (pc := 46) C kX2_64 dX2_findFair_46 (c_X2_startSearch) (s_27 _) rfl rfl (Nat.le_of_ble_eq_true rfl) (by decide) ⟨by decide, by decide⟩ ?_
  refine r_iconst (pc := 49) C (0) dX2_findFair_49 (by decide) ?_
  refine r_istore_n (pc := 50) C dX2_findFair_50 (by decide) rfl ?_
  refine l_findFair C N h0 (hP.ok hl2) ?_ n124 0 _ (Nat.zero_add _) ⟨sr.zero (fun k hk => by rw [hh, fillM_row (by omega)]; exact h4.2.2.toC k hk), fun w hw => ?_⟩
  · intro h2 hh2
    refine q_vret (pc := 94) C dX2_findFair_94 rfl ?_
    exact hh2.1
  · rw [u2_row (by decide), u2_row (by decide), hh, fillM_in (by omega) (by omega), Nat.sub_zero]
    exact hP.2.2.1 w hw 4 (by decide)
