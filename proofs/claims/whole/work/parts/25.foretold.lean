/-! WHAT IS FORETOLD, BY THE CLASS -/
theorem nIz {n : Nat} (h : n < 2147483648) : nI n = 0 ↔ n = 0 := by
  rw [← nI_0]
  exact nI_eq h (by decide)
/-- only the foretold party -/
def agP (f h : MM) : Prop := ∀ k, (k < 28 ∨ 36 ≤ k) → h k = f k
/-- only what is foretold -/
def agC (f h : MM) : Prop := ∀ k, (k < 27 ∨ 47 ≤ k) → h k = f k
theorem agP.trans {f g h : MM} (a : agP f g) (b : agP g h) : agP f h := fun k hk => (b k hk).trans (a k hk)
theorem agC.trans {f g h : MM} (a : agC f g) (b : agC g h) : agC f h := fun k hk => (b k hk).trans (a k hk)
theorem agP.toC {f h : MM} (a : agP f h) : agC f h := fun k hk => a k (by omega)
theorem agP.rf {f : MM} : agP f f := fun _ _ => rfl
theorem agC.rf {f : MM} : agC f f := fun _ _ => rfl
theorem agC.u2 {f h : MM} (a : agC f h) {k j : Nat} {v : Int32} (hk : 27 ≤ k ∧ k < 47) : agC f (u2 h k j v) := fun c hc => by rw [u2_row (by omega)]; exact a c hc
def Pt (f : MM) (p n : Nat) (s : Int32) (l : Nat) (st : Nat → Int32) : Prop := f p 1 = nI n ∧ sS (f p 2) s n ∧ cR f p n st ∧ gP f p n l
def Wy (f : MM) (L : Nat) (st : Nat → Int32) : Prop := f 4 3 = nI L ∧ ∀ j, j < L → f 5 j = st j ∧ 0 ≤ (f 5 j).toInt ∧ (f 5 j).toInt ≤ 9
theorem Wy.ag {f h : MM} {L : Nat} {st : Nat → Int32} (a : Wy f L st) (b : agC f h) : Wy h L st := by
  refine ⟨by rw [b 4 (by omega)]; exact a.1, fun j hj => ?_⟩
  rw [b 5 (by omega)]
  exact a.2 j hj
theorem Wy.st {f : MM} {L : Nat} {st st' : Nat → Int32} (a : Wy f L st) (b : ∀ j, j < L → st' j = st j) : Wy f L st' := ⟨a.1, fun j hj => by rw [b j hj]; exact a.2 j hj⟩
theorem Pt.fit {f : MM} {p n l : Nat} {s : Int32} {st : Nat → Int32} (h : Pt f p n s l st) (hl : l ≤ 16) : ∀ w, w < n → hasB (f p 2) w = true → fitW (f (p + 2 + w)) := fun w hw _ => (h.2.2.2 w hw).fit hl
theorem Pt.move {f : MM} {p n l L leg : Nat} {s ru mi : Int32} {st : Nat → Int32} (h : Pt f p n s l st) (hW : Wy f L st) (hn : n ≤ 6) (hl : l ≤ 16) (hg : leg < L) (h10 : st 10 = ru) (h11 : st 11 = mi) (hi : 0 ≤ mi.toInt ∧ mi.toInt ≤ 30) : Pt (C_move f 4 p n L leg ru mi) p n s (l + 1) (goS n L leg s st) := by
  obtain ⟨a, b, c, d⟩ := h
  have w := hW.2 leg hg
  refine ⟨?_, ?_, (move_cR hn c b w.1 d hl w.2 h10 h11 hi).1, C_move_good d hl w.2 hi⟩
  · rw [C_move_p (by omega)]; exact a
  · rw [C_move_p (by omega)]; exact b
theorem C_pbec_p {f : MM} {p q n k : Nat} (h : k ≠ p) (h2 : k < p + 2 ∨ p + 2 + n ≤ k) : C_pbec f p q n k = f k := by
  unfold C_pbec
  rw [show mapK (bcF f q) p n (u2 (u2 f p 1 (f q 1)) p 2 (f q 2)) k = u2 (u2 f p 1 (f q 1)) p 2 (f q 2) k by rcases h2 with h2 | h2 <;> first | exact mapK_lo h2 | exact mapK_hi h2, u2_row h, u2_row h]
theorem C_pbec_0 {f : MM} {p q n : Nat} : C_pbec f p q n p 1 = f q 1 ∧ C_pbec f p q n p 2 = f q 2 := by
  unfold C_pbec
  rw [mapK_lo (by omega)]
  simp [u2]
theorem C_pbec_row {f : MM} {p q n w j : Nat} (hw : w < n) (hj : j < 7) : C_pbec f p q n (p + 2 + w) j = f (q + 2 + w) j := by
  unfold C_pbec
  rw [mapK_in hw]
  exact rowB_lt hj
theorem goodR.congr {l : Nat} {r t : Nat → Int32} (h : goodR l r) (e : ∀ j, j < 7 → t j = r j) : goodR l t := by
  unfold goodR
  rw [e 0 (by decide), e 1 (by decide), e 2 (by decide), e 3 (by decide), e 4 (by decide)]
  exact h
theorem Pt.pbec {f : MM} {p q n l : Nat} {s : Int32} {st : Nat → Int32} (h : Pt f q n s l st) : Pt (C_pbec f p q n) p n s l st := by
  obtain ⟨a, b, c, d⟩ := h
  refine ⟨by rw [C_pbec_0.1]; exact a, by rw [C_pbec_0.2]; exact b, fun w hw j hj => ?_, fun w hw => ?_⟩
  · rw [C_pbec_row hw (by omega)]; exact c w hw j hj
  · exact (d w hw).congr (fun j hj => C_pbec_row hw hj)
theorem Pt.congr {f h : MM} {p n l : Nat} {s : Int32} {st : Nat → Int32} (a : Pt f p n s l st) (e : ∀ k, p ≤ k → k < p + 8 → h k = f k) (hn : n ≤ 6) : Pt h p n s l st := by
  obtain ⟨a, b, c, d⟩ := a
  refine ⟨by rw [e p (by omega) (by omega)]; exact a, by rw [e p (by omega) (by omega)]; exact b, fun w hw j hj => ?_, fun w hw => ?_⟩
  · rw [e (p + 2 + w) (by omega) (by omega)]; exact c w hw j hj
  · rw [e (p + 2 + w) (by omega) (by omega)]; exact d w hw
theorem Pt.st {f : MM} {p n l : Nat} {s : Int32} {st st' : Nat → Int32} (a : Pt f p n s l st) (e : ∀ k, 14 ≤ k → st' k = st k) : Pt f p n s l st' := ⟨a.1, a.2.1, fun w hw j hj => by rw [e _ (by omega)]; exact a.2.2.1 w hw j hj, a.2.2.2⟩
theorem Pt.last {f : MM} {p n l : Nat} {s : Int32} {st : Nat → Int32} (a : Pt f p n s l st) : lastI (clk f p 4) (f p 2) n = lastI st s n := lastI_eq a.2.1 (fun w hw _ => by rw [clk_at]; exact a.2.2.1 w hw 4 (by decide))
theorem agP_move {f0 f : MM} {o n L leg : Nat} {ru mi : Int32} (a : agP f0 f) (hn : n ≤ 6) : agP f0 (C_move f o 28 n L leg ru mi) := fun k hk => by rw [C_move_p (by omega)]; exact a k hk
theorem agP_pbec {f0 f : MM} {q n : Nat} (a : agP f0 f) (hn : n ≤ 6) : agP f0 (C_pbec f 28 q n) := fun k hk => by rw [C_pbec_p (by omega) (by omega)]; exact a k hk
set_option maxRecDepth 100000 in
set_option maxHeartbeats 4000000 in
theorem c_X2_startSearch {G : GG} {kn : Nat} {f : MM}  : CV G mX2_startSearch 1 kn [.ref (G.1 + 27)] f (u2 (u2 f 27 5 1000000000) 27 6 0) := by
  refine Ct.of [some (.ref (G.1 + 27))] rfl (by decide +kernel) rfl (Nat.le_of_ble_eq_true rfl) rfl ?_
  intro X C
  refine r_aload_n (pc := 0) C dX2_startSearch_0 rfl ?_
  refine r_ldc (pc := 1) C (1000000000) kX2_57 dX2_startSearch_1 ?_
  refine r_put (pc := 3) C fX2_58 ftX2_5 dX2_startSearch_3 (s_27 _) rfl ?_
  refine r_aload_n (pc := 6) C dX2_startSearch_6 rfl ?_
  refine r_iconst (pc := 7) C (0) dX2_startSearch_7 (by decide) ?_
  refine r_put (pc := 8) C fX2_61 ftX2_6 dX2_startSearch_8 (s_27 _) rfl ?_
  refine q_vret (pc := 11) C dX2_startSearch_11 rfl ?_
  rfl
def keepF (f : MM) (v x : Int32) : MM := if v < f 27 5 then u2 (u2 f 27 5 v) 27 6 x else f
set_option maxRecDepth 100000 in
set_option maxHeartbeats 4000000 in
theorem c_X2_keepIfLess {G : GG} {kn : Nat} {f : MM} {v x : Int32} : CI G mX2_keepIfLess 1 kn [.ref (G.1 + 27), .int v, .int x] f (b1 (decide (v < f 27 5))) (keepF f v x) := by
  refine Ct.of [some (.ref (G.1 + 27)), some (.int v), some (.int x)] rfl (by decide +kernel) rfl (Nat.le_of_ble_eq_true rfl) rfl ?_
  intro X C
  refine r_iload_n (pc := 0) C dX2_keepIfLess_0 rfl ?_
  refine r_aload_n (pc := 1) C dX2_keepIfLess_1 rfl ?_
  refine r_get (pc := 2) C fX2_58 dX2_keepIfLess_2 (s_27 _) rfl ?_
  refine r_icmp_lt (pc := 5) C 10 dX2_keepIfLess_5 (by decide) (fun c5 => ?_) (fun c5 => ?_)
  · refine r_aload_n (pc := 10) C dX2_keepIfLess_10 rfl ?_
    refine r_iload_n (pc := 11) C dX2_keepIfLess_11 rfl ?_
    refine r_put (pc := 12) C fX2_58 ftX2_5 dX2_keepIfLess_12 (s_27 _) rfl ?_
    refine r_aload_n (pc := 15) C dX2_keepIfLess_15 rfl ?_
    refine r_iload_n (pc := 16) C dX2_keepIfLess_16 rfl ?_
    refine r_put (pc := 17) C fX2_61 ftX2_6 dX2_keepIfLess_17 (s_27 _) rfl ?_
    refine r_iconst (pc := 20) C (1) dX2_keepIfLess_20 (by decide) ?_
    refine q_zret (pc := 21) C dX2_keepIfLess_21 rfl (Or.inr rfl) ?_
    first | exact ⟨b1t c5, by simp only [keepF]; rw [if_pos c5]⟩ | exact ⟨b1f c5, by simp only [keepF]; rw [if_neg c5]⟩
  · refine r_iconst (pc := 8) C (0) dX2_keepIfLess_8 (by decide) ?_
    refine q_zret (pc := 9) C dX2_keepIfLess_9 rfl (Or.inl rfl) ?_
    first | exact ⟨b1t c5, by simp only [keepF]; rw [if_pos c5]⟩ | exact ⟨b1f c5, by simp only [keepF]; rw [if_neg c5]⟩
set_option maxRecDepth 100000 in
set_option maxHeartbeats 4000000 in
theorem c_X2_bestRule {G : GG} {kn : Nat} {f : MM} {q : Int32} : CI G mX2_bestRule 1 kn [.ref (G.1 + 27), .int q] f (if q = 0 then f 27 6 / 31 else if q = 1 then f 27 6 - f 27 6 / 31 * 31 else f 27 5) f := by
  refine Ct.of [some (.ref (G.1 + 27)), some (.int q)] rfl (by decide +kernel) rfl (Nat.le_of_ble_eq_true rfl) rfl ?_
  intro X C
  refine r_iload_n (pc := 0) C dX2_bestRule_0 rfl ?_
  refine r_if_ne (pc := 1) C 12 dX2_bestRule_1 (by decide) (fun c1 => ?_) (fun c1 => ?_)
  · refine r_iload_n (pc := 12) C dX2_bestRule_12 rfl ?_
    refine r_iconst (pc := 13) C (1) dX2_bestRule_13 (by decide) ?_
    refine r_icmp_ne (pc := 14) C 27 dX2_bestRule_14 (by decide) (fun c14 => ?_) (fun c14 => ?_)
    · refine r_aload_n (pc := 27) C dX2_bestRule_27 rfl ?_
      refine r_get (pc := 28) C fX2_58 dX2_bestRule_28 (s_27 _) rfl ?_
      refine q_iret (pc := 31) C dX2_bestRule_31 rfl ?_
      exact ⟨by simp [*], rfl⟩
    · refine r_aload_n (pc := 17) C dX2_bestRule_17 rfl ?_
      refine r_get (pc := 18) C fX2_61 dX2_bestRule_18 (s_27 _) rfl ?_
      refine r_bipush (pc := 21) C (31) dX2_bestRule_21 (by decide) ?_
      refine r_irem (pc := 23) C dX2_bestRule_23 (by decide) ?_
      refine r_goto (pc := 24) C 31 dX2_bestRule_24 (by decide) ?_
      refine q_iret (pc := 31) C dX2_bestRule_31 rfl ?_
      exact ⟨by simp [*], rfl⟩
  · refine r_aload_n (pc := 4) C dX2_bestRule_4 rfl ?_
    refine r_get (pc := 5) C fX2_61 dX2_bestRule_5 (s_27 _) rfl ?_
    refine r_bipush (pc := 8) C (31) dX2_bestRule_8 (by decide) ?_
    refine r_idiv (pc := 10) C dX2_bestRule_10 (by decide) ?_
    refine q_iret (pc := 11) C dX2_bestRule_11 rfl ?_
    exact ⟨by simp [*], rfl⟩
def apB (k : Nat) : Bool := k / 31 == 1 || k / 31 == 2 || k % 31 == 0
theorem ap1 {k : Nat} (h : k < 2000) (c : nI (k % 31) = 0) : (1 : Int32) = b1 (apB k) := by
  have z : k % 31 = 0 := (nIz (by omega)).mp c
  simp [apB, b1, z]
theorem ap0 {k : Nat} (h : k < 2000) (c7 : ¬ k / 31 = 1) (c12 : ¬ k / 31 = 2) (c : ¬ nI (k % 31) = 0) : (0 : Int32) = b1 (apB k) := by
  have z : ¬ k % 31 = 0 := fun q => c ((nIz (by omega)).mpr q)
  simp [apB, b1, c7, c12, z]
set_option maxRecDepth 100000 in
set_option maxHeartbeats 4000000 in
theorem c_X2_isApart {G : GG} {kn : Nat} {f : MM} {k : Nat} (hk : k < 2000) : CI G mX2_isApart 1 kn [.int (nI k)] f (b1 (apB k)) f := by
  refine Ct.of [some (.int (nI k)), none] rfl (by decide +kernel) rfl (Nat.le_of_ble_eq_true rfl) rfl ?_
  intro X C
  refine r_iload_n (pc := 0) C dX2_isApart_0 rfl ?_
  refine r_bipush (pc := 1) C (31) dX2_isApart_1 (by decide) ?_
  refine r_idiv (pc := 3) C dX2_isApart_3 (by decide) ?_
  refine q_is (k / 31) (div31 hk) ?_
  refine r_istore_n (pc := 4) C dX2_isApart_4 (by decide) rfl ?_
  refine r_iload_n (pc := 5) C dX2_isApart_5 rfl ?_
  refine r_iconst (pc := 6) C (1) dX2_isApart_6 (by decide) ?_
  refine q_eq (pc := 7) C (k / 31) 1 22 rfl rfl (by omega) (by omega) dX2_isApart_7 (by decide) (fun c7 => ?_) (fun c7 => ?_)
  · refine r_iconst (pc := 22) C (1) dX2_isApart_22 (by decide) ?_
    refine r_goto (pc := 23) C 27 dX2_isApart_23 (by decide) ?_
    refine q_zret (pc := 27) C dX2_isApart_27 rfl (Or.inr rfl) ?_
    refine ⟨?_, rfl⟩
    first | exact ap1 hk c19 | exact ap0 hk c7 c12 c19 | (simp [apB, b1, c7]; done)
  · refine r_iload_n (pc := 10) C dX2_isApart_10 rfl ?_
    refine r_iconst (pc := 11) C (2) dX2_isApart_11 (by decide) ?_
    refine q_eq (pc := 12) C (k / 31) 2 22 rfl rfl (by omega) (by omega) dX2_isApart_12 (by decide) (fun c12 => ?_) (fun c12 => ?_)
    · refine r_iconst (pc := 22) C (1) dX2_isApart_22 (by decide) ?_
      refine r_goto (pc := 23) C 27 dX2_isApart_23 (by decide) ?_
      refine q_zret (pc := 27) C dX2_isApart_27 rfl (Or.inr rfl) ?_
      refine ⟨?_, rfl⟩
      first | exact ap1 hk c19 | exact ap0 hk c7 c12 c19 | (simp [apB, b1, c7, c12]; done)
    · refine r_iload_n (pc := 15) C dX2_isApart_15 rfl ?_
      refine r_bipush (pc := 16) C (31) dX2_isApart_16 (by decide) ?_
      refine r_irem (pc := 18) C dX2_isApart_18 (by decide) ?_
      refine q_is (k % 31) (rem31 hk) ?_
      refine r_if_ne (pc := 19) C 26 dX2_isApart_19 (by decide) (fun c19 => ?_) (fun c19 => ?_)
      · refine r_iconst (pc := 26) C (0) dX2_isApart_26 (by decide) ?_
        refine q_zret (pc := 27) C dX2_isApart_27 rfl (Or.inl rfl) ?_
        refine ⟨?_, rfl⟩
        first | exact ap1 hk c19 | exact ap0 hk c7 c12 c19 | (simp [apB, b1, c7, c12, c19]; done)
      · refine r_iconst (pc := 22) C (1) dX2_isApart_22 (by decide) ?_
        refine r_goto (pc := 23) C 27 dX2_isApart_23 (by decide) ?_
        refine q_zret (pc := 27) C dX2_isApart_27 rfl (Or.inr rfl) ?_
        refine ⟨?_, rfl⟩
        first | exact ap1 hk c19 | exact ap0 hk c7 c12 c19 | (simp [apB, b1, c7, c12, c19]; done)

set_option maxRecDepth 100000 in
set_option maxHeartbeats 4000000 in
theorem l_walkOn {X : XT} {G : GG} {kn : Nat} {Q : State → Prop} {f0 : MM} {n L : Nat} {s ru mi : Int32} {S0 : Nat → Int32} (C : Cx X G mX2_walkOn 5 0 0 (NN kn)) (hn : n ≤ 6) (hL : L ≤ 8) (hi : 0 ≤ mi.toInt ∧ mi.toInt ≤ 30) (K : ∀ (h : MM) (l : Nat), l ≤ 16 → Pt h 28 n s l S0 → agP f0 h → Vw X G mX2_walkOn.2.2.2.1 0 0 Q (NN kn) (shF kn) h 33 [some (.ref (G.1 + 27)), some (.ref (G.1 + 4)), some (.int ru), some (.int mi), none] []) : ∀ (m leg l : Nat) (st : Nat → Int32) (h : MM), leg + m = L → l + m ≤ 16 → Pt h 28 n s l st → Wy h L st → st 10 = ru → st 11 = mi → hutI n L s m leg st = S0 → agP f0 h → Vw X G mX2_walkOn.2.2.2.1 0 0 Q (NN kn) (shF kn) h 6 [some (.ref (G.1 + 27)), some (.ref (G.1 + 4)), some (.int ru), some (.int mi), some (.int (nI leg))] [] := by
  intro m
  induction m with
  | zero =>
    intro leg l st h hm hlm hP hW h10 h11 hS ha
    obtain rfl : L = leg := by omega
    cases hS
    refine r_iload (pc := 6) C dX2_walkOn_6 rfl ?_
    refine r_aload_n (pc := 8) C dX2_walkOn_8 rfl ?_
    refine r_get (pc := 9) C fX2_46 dX2_walkOn_9 (w_0 isW.now) rfl ?_
    refine q_ge (pc := 12) C L L 33 rfl hW.1 (by omega) (by omega) dX2_walkOn_12 (by decide) (fun c12 => ?_) (fun c12 => ?_)
    · exact v_drop _ (by repeat (first | exact trivial | exact rfl | constructor)) (K h l (by omega) hP ha)
    · exact absurd c12 (by omega)
  | succ m ih =>
    intro leg l st h hm hlm hP hW h10 h11 hS ha
    refine r_iload (pc := 6) C dX2_walkOn_6 rfl ?_
    refine r_aload_n (pc := 8) C dX2_walkOn_8 rfl ?_
    refine r_get (pc := 9) C fX2_46 dX2_walkOn_9 (w_0 isW.now) rfl ?_
    refine q_ge (pc := 12) C leg L 33 rfl hW.1 (by omega) (by omega) dX2_walkOn_12 (by decide) (fun c12 => ?_) (fun c12 => ?_)
    · exact absurd c12 (by omega)
    · refine r_aload_n (pc := 15) C dX2_walkOn_15 rfl ?_
      refine r_aload_n (pc := 16) C dX2_walkOn_16 rfl ?_
      refine r_getr (pc := 17) C fX2_12 dX2_walkOn_17 (s_27 _) rfl rfl ?_
      refine r_iload (pc := 20) C dX2_walkOn_20 rfl ?_
      refine r_iload_n (pc := 22) C dX2_walkOn_22 rfl ?_
      refine r_iload_n (pc := 23) C dX2_walkOn_23 rfl ?_
      refine q_vVf (pc := 24) C kX2_49 dX2_walkOn_24 (c_X7_move (n := n) (L := L) (leg := leg) isW.now isP.go hn (by omega) hL hP.1 hW.1 (hP.fit (by omega))) (w_0 isW.now) rfl rfl (Nat.le_of_ble_eq_true rfl) (by decide) ⟨by decide, by decide⟩ ?_
      refine r_iinc (pc := 27) C (nI (leg + 1)) dX2_walkOn_27 rfl (nI_inc _) (by decide) rfl ?_
      refine r_goto (pc := 30) C 6 dX2_walkOn_30 (by decide) ?_
      exact ih (leg + 1) (l + 1) (goS n L leg s st) _ (by omega) (by omega) (hP.move hW hn (by omega) (by omega) h10 h11 hi) ((hW.ag (agP_move agP.rf hn).toC).st (fun j hj => goS_lo (by omega) (by omega))) ((goS_lo (by decide) (by decide)).trans h10) ((goS_lo (by decide) (by decide)).trans h11) hS (agP_move ha hn)
set_option maxRecDepth 100000 in
set_option maxHeartbeats 4000000 in
theorem c_X2_walkOn {G : GG} {kn : Nat} {f : MM} {n L g l : Nat} {s ru mi : Int32} {st : Nat → Int32} (hn : n ≤ 6) (hL : L ≤ 8) (hg : g ≤ L) (hl : l + (L - g) ≤ 16) (hP : Pt f 28 n s l st) (hW : Wy f L st) (h4 : f 4 4 = nI g) (h10 : st 10 = ru) (h11 : st 11 = mi) (hi : 0 ≤ mi.toInt ∧ mi.toInt ≤ 30) : RI G mX2_walkOn 5 kn [.ref (G.1 + 27), .ref (G.1 + 4), .int ru, .int mi] f (fun v g2 => v = lastI (hutI n L s (L - g) g st) s n ∧ (∃ l2, l2 ≤ 16 ∧ Pt g2 28 n s l2 (hutI n L s (L - g) g st)) ∧ agP f g2) := by
  refine Ct.of [some (.ref (G.1 + 27)), some (.ref (G.1 + 4)), some (.int ru), some (.int mi), none] rfl (by decide +kernel) rfl (Nat.le_of_ble_eq_true rfl) rfl ?_
  intro X C
  refine r_aload_n (pc := 0) C dX2_walkOn_0 rfl ?_
  refine r_get (pc := 1) C fX2_42 dX2_walkOn_1 (w_0 isW.now) rfl ?_
  refine q_is (g) h4 ?_
  refine r_istore (pc := 4) C dX2_walkOn_4 (by decide) rfl ?_
  refine l_walkOn (f0 := f) C hn hL hi ?_ (L - g) g l st f (by omega) (by omega) hP hW h10 h11 rfl agP.rf
  intro h l2 hl2 hP2 ha
  refine r_aload_n (pc := 33) C dX2_walkOn_33 rfl ?_
  refine r_getr (pc := 34) C fX2_12 dX2_walkOn_34 (s_27 _) rfl rfl ?_
  refine q_vIf (pc := 37) C kX2_53 dX2_walkOn_37 (c_X3_lastMinute isP.go hn hP2.1) (p_0 isP.go) rfl rfl (Nat.le_of_ble_eq_true rfl) (by decide) ⟨by decide, by decide⟩ ?_
  refine q_iret (pc := 40) C dX2_walkOn_40 rfl ?_
  exact ⟨hP2.last, ⟨l2, hl2, hP2⟩, ha⟩
theorem all_has {n w : Nat} (hn : n ≤ 6) (hw : w < n) : hasB (allI n) w = true := by
  have e : n = 0 ∨ n = 1 ∨ n = 2 ∨ n = 3 ∨ n = 4 ∨ n = 5 ∨ n = 6 := by omega
  have d : w = 0 ∨ w = 1 ∨ w = 2 ∨ w = 3 ∨ w = 4 ∨ w = 5 := by omega
  rcases e with rfl | rfl | rfl | rfl | rfl | rfl | rfl <;> rcases d with rfl | rfl | rfl | rfl | rfl | rfl <;> first | omega | decide
theorem h63 {w : Nat} (hw : w < 6) : hasB 63 w = true := by
  have : w = 0 ∨ w = 1 ∨ w = 2 ∨ w = 3 ∨ w = 4 ∨ w = 5 := by omega
  rcases this with rfl | rfl | rfl | rfl | rfl | rfl <;> decide
theorem sS63 {n : Nat} (hn : n ≤ 6) : sS 63 (allI n) n := fun w hw => by rw [h63 (by omega), all_has hn hw]
/-- the way as it is told by both -/
def Now (f : MM) (n L g : Nat) : Prop := (n ≤ 6 ∧ L ≤ 8 ∧ g ≤ L) ∧ Pt f 6 n (allI n) g (f 89) ∧ Wy f L (f 89) ∧ f 4 4 = nI g ∧ f 4 5 = f 89 10 ∧ f 4 6 = f 89 11 ∧ f 4 7 = f 89 12 ∧ 0 ≤ (f 89 11).toInt ∧ (f 89 11).toInt ≤ 30
section NW
variable {f : MM} {n L g : Nat}
theorem Now.hn (N : Now f n L g) : n ≤ 6 := N.1.1
theorem Now.hL (N : Now f n L g) : L ≤ 8 := N.1.2.1
theorem Now.hg (N : Now f n L g) : g ≤ L := N.1.2.2
theorem Now.pt (N : Now f n L g) : Pt f 6 n (allI n) g (f 89) := N.2.1
theorem Now.wy (N : Now f n L g) : Wy f L (f 89) := N.2.2.1
theorem Now.gt (N : Now f n L g) : f 4 4 = nI g := N.2.2.2.1
theorem Now.ru (N : Now f n L g) : f 4 5 = f 89 10 := N.2.2.2.2.1
theorem Now.mi (N : Now f n L g) : f 4 6 = f 89 11 := N.2.2.2.2.2.1
theorem Now.su (N : Now f n L g) : f 4 7 = f 89 12 := N.2.2.2.2.2.2.1
theorem Now.mb (N : Now f n L g) : 0 ≤ (f 89 11).toInt ∧ (f 89 11).toInt ≤ 30 := N.2.2.2.2.2.2.2
end NW
theorem Now.ag {f h : MM} {n L g : Nat} (a : Now f n L g) (b : agC f h) : Now h n L g := by
  have e : h 89 = f 89 := b 89 (by omega)
  have e4 : h 4 = f 4 := b 4 (by omega)
  refine ⟨⟨a.hn, a.hL, a.hg⟩, ?_, ?_, ?_, ?_, ?_, ?_, ?_⟩
  · rw [e]; exact a.pt.congr (fun k h1 h2 => b k (by omega)) a.hn
  · rw [e]; exact a.wy.ag b
  · rw [e4]; exact a.gt
  · rw [e4, e]; exact a.ru
  · rw [e4, e]; exact a.mi
  · rw [e4, e]; exact a.su
  · rw [e]; exact a.mb
set_option maxRecDepth 100000 in
set_option maxHeartbeats 4000000 in
theorem c_X2_walkToHut {G : GG} {kn : Nat} {f : MM} {n L g : Nat} {ru mi : Int32} (N : Now f n L g) (hi : 0 ≤ mi.toInt ∧ mi.toInt ≤ 30) : RI G mX2_walkToHut 6 kn [.ref (G.1 + 27), .ref (G.1 + 4), .int ru, .int mi] f (fun v g2 => v = tryV n L g (f 89) ru mi ∧ (∃ l2, l2 ≤ 16 ∧ Pt g2 28 n (allI n) l2 (hutV n L g (f 89) ru mi)) ∧ agP f g2) := by
  refine Ct.of [some (.ref (G.1 + 27)), some (.ref (G.1 + 4)), some (.int ru), some (.int mi)] rfl (by decide +kernel) rfl (Nat.le_of_ble_eq_true rfl) rfl ?_
  intro X C
  refine r_aload_n (pc := 0) C dX2_walkToHut_0 rfl ?_
  refine r_getr (pc := 1) C fX2_12 dX2_walkToHut_1 (s_27 _) rfl rfl ?_
  refine r_aload_n (pc := 4) C dX2_walkToHut_4 rfl ?_
  refine r_getr (pc := 5) C fX2_31 dX2_walkToHut_5 (w_0 isW.now) rfl (w_t1 isW.now) ?_
  refine q_vVf (pc := 8) C kX2_34 dX2_walkToHut_8 (c_X3_become (n := n) isP.go (isP.way isW.now) (by omega) N.hn N.pt.1) (p_0 isP.go) rfl rfl (Nat.le_of_ble_eq_true rfl) (by decide) ⟨by decide, by decide⟩ ?_
  refine r_aload_n (pc := 11) C dX2_walkToHut_11 rfl ?_
  refine r_aload_n (pc := 12) C dX2_walkToHut_12 rfl ?_
  refine r_iload_n (pc := 13) C dX2_walkToHut_13 rfl ?_
  refine r_iload_n (pc := 14) C dX2_walkToHut_14 rfl ?_
  refine q_vI (pc := 15) C kX2_38 dX2_walkToHut_15 (c_X2_walkOn (n := n) (L := L) (g := g) (l := g) (s := allI n) (st := upd (upd (f 89) 10 ru) 11 mi) N.hn N.hL N.hg (by have := N.hL; have := N.hg; omega) (N.pt.pbec.st (fun k hk => by rw [upd_ne (by omega), upd_ne (by omega)])) ((N.wy.ag (agP_pbec agP.rf N.hn).toC).st (fun j hj => by have := N.hL; rw [upd_ne (by omega), upd_ne (by omega)])) (by rw [C_pbec_p (by decide) (by omega)]; exact N.gt) (by rw [upd_ne (by decide), upd_at]) upd_at hi) (s_27 _) rfl rfl (Nat.le_of_ble_eq_true rfl) (by decide) ⟨by decide, by decide⟩ ?_
  intro v g2 hv
  refine q_iret (pc := 18) C dX2_walkToHut_18 rfl ?_
  exact ⟨hv.1, hv.2.1, (agP_pbec agP.rf N.hn).trans hv.2.2⟩
