/-! TEXTS: the class reads legs and a rule -/
theorem PoC.ag {tp : Nat → Int32} {len e p : Nat} {g h : MM} (a : PoC tp len e p g) (h2 : h 2 = g 2) (h3 : h 3 = g 3) : PoC tp len e p h := by
  unfold PoC AtC at *
  rw [h2, h3]
  exact a
theorem tkS_ok {tp : Nat → Int32} {len : Nat} {c : Int32} {s : PR} (h : (tkS tp len c s).1 = 0) : s.1 = 0 := by
  by_cases q : s.1 = 0
  · exact q
  · rw [tkS_bad q] at h; exact h
theorem numS_bad {tp : Nat → Int32} {len : Nat} {lo hi : Int32} {ix : Nat} {s : PR} (h : s.1 ≠ 0) : numS tp len lo hi ix s = s := by unfold numS; rw [if_neg h]
theorem numS_ok {tp : Nat → Int32} {len : Nat} {lo hi : Int32} {ix : Nat} {s : PR} (h : (numS tp len lo hi ix s).1 = 0) : s.1 = 0 ∧ (numS tp len lo hi ix s).2.2 ix = vl tp len s.2.1 := by
  unfold numS at *
  split
  · rename_i h0
    rw [if_pos h0] at h
    split
    · rename_i h1
      rw [if_pos h1] at h
      split
      · exact ⟨h0, upd_at⟩
      · rename_i h2
        rw [if_neg h2] at h
        cases h
    · rename_i h1
      rw [if_neg h1] at h
      cases h
  · rename_i h0
    rw [if_neg h0] at h
    exact absurd h h0
theorem ruleS_bad {tp : Nat → Int32} {len : Nat} {s : PR} (h : s.1 ≠ 0) : ruleS tp len s = s := by
  unfold ruleS
  rw [tkS_bad h, numS_bad h, tkS_bad h, numS_bad h, tkS_bad h, numS_bad h, tkS_bad h]
def agU (f g : MM) : Prop := ∀ k b, ¬ (k = 2 ∧ 2 ≤ b ∧ b ≤ 7) → ¬ (k = 14 ∧ 5 ≤ b ∧ b ≤ 7) → g k b = f k b
theorem agU.rf {f : MM} : agU f f := fun _ _ _ _ => rfl
theorem agU.q {f g h : MM} (a : agU f g) (b : agQ g h) : agU f h := fun k t h1 h2 => (b k t h1).trans (a k t h1 h2)
theorem agU.put {f g : MM} (a : agU f g) {b : Nat} {v : Int32} (h1 : 5 ≤ b) (h2 : b ≤ 7) : agU f (u2 g 14 b v) := fun k t q1 q2 => by
  rw [← a k t q1 q2]
  simp only [u2]
  rw [if_neg (by omega)]
theorem agQ.at14 {f g : MM} (a : agQ f g) : g 14 = f 14 := a.row (by decide)
theorem PoC.num {tp : Nat → Int32} {len : Nat} {lo hi : Int32} (ix : Nat) {s : PR} {g : MM} (h : PoC tp len (numC tp len lo hi true s.1 s.2.1).1 (numC tp len lo hi true s.1 s.2.1).2 g) : PoC tp len (numS tp len lo hi ix s).1 (numS tp len lo hi ix s).2.1 g := by
  rw [numC_S (ix := ix)] at h
  exact h
theorem val.num {tp : Nat → Int32} {len : Nat} {lo hi v : Int32} (ix : Nat) {s : PR} (h : (numC tp len lo hi true s.1 s.2.1).1 = 0 → v = vl tp len s.2.1 ∧ lo ≤ v ∧ v ≤ hi) (e : (numS tp len lo hi ix s).1 = 0) : v = (numS tp len lo hi ix s).2.2 ix ∧ lo ≤ v ∧ v ≤ hi := by
  rw [numC_S (ix := ix)] at h
  have q := h e
  exact ⟨by rw [(numS_ok e).2]; exact q.1, q.2⟩
def RuOK (g : MM) (rd : Nat → Int32) : Prop := g 14 5 = rd 10 ∧ g 14 6 = rd 11 ∧ g 14 7 = rd 12 ∧ (0 ≤ rd 10 ∧ rd 10 ≤ 3) ∧ (0 ≤ rd 11 ∧ rd 11 ≤ 30) ∧ (1 ≤ rd 12 ∧ rd 12 ≤ 999)
set_option maxRecDepth 100000 in
set_option maxHeartbeats 4000000 in
theorem c_X4_readRule {G : GG} {kn : Nat} {f : MM} {tp : Nat → Int32} {len : Nat} {s : PR} (h : PoC tp len s.1 s.2.1 f) : RV G mX4_readRule 5 kn [.ref (G.1 + 2), .ref (G.1 + 14)] f (fun g => PoC tp len (ruleS tp len s).1 (ruleS tp len s).2.1 g ∧ agU f g ∧ ((ruleS tp len s).1 = 0 → RuOK g (ruleS tp len s).2.2)) := by
  refine Ct.of [some (.ref (G.1 + 2)), some (.ref (G.1 + 14))] rfl (by decide +kernel) rfl (Nat.le_of_ble_eq_true rfl) rfl ?_
  intro X C
  refine r_aload_n (pc := 0) C dX4_readRule_0 rfl ?_
  refine r_bipush (pc := 1) C (114) dX4_readRule_1 (by decide) ?_
  refine q_vV (pc := 3) C kX4_47 dX4_readRule_3 (c_X4_expect (c := 114) (s := s) h (by decide)) (s_2 _) rfl rfl (Nat.le_of_ble_eq_true rfl) (by decide) ⟨by decide, by decide⟩ ?_
  intro f3 h3
  refine r_aload_n (pc := 6) C dX4_readRule_6 rfl ?_
  refine r_aload_n (pc := 7) C dX4_readRule_7 rfl ?_
  refine r_iconst (pc := 8) C (0) dX4_readRule_8 (by decide) ?_
  refine r_iconst (pc := 9) C (3) dX4_readRule_9 (by decide) ?_
  refine r_iconst (pc := 10) C (1) dX4_readRule_10 (by decide) ?_
  refine q_vI (pc := 11) C kX4_51 dX4_readRule_11 (c_X4_expectNumber (e := (tkS tp len 114 s).1) (p := (tkS tp len 114 s).2.1) (lo := 0) (hi := 3) (rm := true) h3.1) (s_2 _) rfl rfl (Nat.le_of_ble_eq_true rfl) (by decide) ⟨by decide, by decide⟩ ?_
  intro v11 f11 h11
  have p11 := h11.1.num 10
  have w11 := val.num 10 h11.2.2
  have a11 : agU f f11 := (agU.rf.q h3.2).q h11.2.1
  refine r_put (pc := 14) C fX4_65 ftX7_5 dX4_readRule_14 (w_0 isW.spare) rfl ?_
  have a14 := a11.put (b := 5) (v := v11) (by decide) (by decide)
  refine r_aload_n (pc := 17) C dX4_readRule_17 rfl ?_
  refine r_bipush (pc := 18) C (44) dX4_readRule_18 (by decide) ?_
  refine q_vV (pc := 20) C kX4_47 dX4_readRule_20 (c_X4_expect (c := 44) (s := (numS tp len 0 3 10 (tkS tp len 114 s))) (p11.ag (by rw [u2_row (by decide)]) (by rw [u2_row (by decide)])) (by decide)) (s_2 _) rfl rfl (Nat.le_of_ble_eq_true rfl) (by decide) ⟨by decide, by decide⟩ ?_
  intro f20 h20
  refine r_aload_n (pc := 23) C dX4_readRule_23 rfl ?_
  refine r_aload_n (pc := 24) C dX4_readRule_24 rfl ?_
  refine r_iconst (pc := 25) C (0) dX4_readRule_25 (by decide) ?_
  refine r_bipush (pc := 26) C (30) dX4_readRule_26 (by decide) ?_
  refine r_iconst (pc := 28) C (1) dX4_readRule_28 (by decide) ?_
  refine q_vI (pc := 29) C kX4_51 dX4_readRule_29 (c_X4_expectNumber (e := (tkS tp len 44 (numS tp len 0 3 10 (tkS tp len 114 s))).1) (p := (tkS tp len 44 (numS tp len 0 3 10 (tkS tp len 114 s))).2.1) (lo := 0) (hi := 30) (rm := true) h20.1) (s_2 _) rfl rfl (Nat.le_of_ble_eq_true rfl) (by decide) ⟨by decide, by decide⟩ ?_
  intro v29 f29 h29
  have p29 := h29.1.num 11
  have w29 := val.num 11 h29.2.2
  have a29 : agU f f29 := (a14.q h20.2).q h29.2.1
  refine r_put (pc := 32) C fX4_68 ftX7_6 dX4_readRule_32 (w_0 isW.spare) rfl ?_
  have a32 := a29.put (b := 6) (v := v29) (by decide) (by decide)
  refine r_aload_n (pc := 35) C dX4_readRule_35 rfl ?_
  refine r_bipush (pc := 36) C (44) dX4_readRule_36 (by decide) ?_
  refine q_vV (pc := 38) C kX4_47 dX4_readRule_38 (c_X4_expect (c := 44) (s := (numS tp len 0 30 11 (tkS tp len 44 (numS tp len 0 3 10 (tkS tp len 114 s))))) (p29.ag (by rw [u2_row (by decide)]) (by rw [u2_row (by decide)])) (by decide)) (s_2 _) rfl rfl (Nat.le_of_ble_eq_true rfl) (by decide) ⟨by decide, by decide⟩ ?_
  intro f38 h38
  refine r_aload_n (pc := 41) C dX4_readRule_41 rfl ?_
  refine r_aload_n (pc := 42) C dX4_readRule_42 rfl ?_
  refine r_iconst (pc := 43) C (1) dX4_readRule_43 (by decide) ?_
  refine r_sipush (pc := 44) C (999) dX4_readRule_44 (by decide) ?_
  refine r_iconst (pc := 47) C (1) dX4_readRule_47 (by decide) ?_
  refine q_vI (pc := 48) C kX4_51 dX4_readRule_48 (c_X4_expectNumber (e := (tkS tp len 44 (numS tp len 0 30 11 (tkS tp len 44 (numS tp len 0 3 10 (tkS tp len 114 s))))).1) (p := (tkS tp len 44 (numS tp len 0 30 11 (tkS tp len 44 (numS tp len 0 3 10 (tkS tp len 114 s))))).2.1) (lo := 1) (hi := 999) (rm := true) h38.1) (s_2 _) rfl rfl (Nat.le_of_ble_eq_true rfl) (by decide) ⟨by decide, by decide⟩ ?_
  intro v48 f48 h48
  have p48 := h48.1.num 12
  have w48 := val.num 12 h48.2.2
  have a48 : agU f f48 := (a32.q h38.2).q h48.2.1
  refine r_put (pc := 51) C fX4_71 ftX7_7 dX4_readRule_51 (w_0 isW.spare) rfl ?_
  have a51 := a48.put (b := 7) (v := v48) (by decide) (by decide)
  refine r_aload_n (pc := 54) C dX4_readRule_54 rfl ?_
  refine r_bipush (pc := 55) C (59) dX4_readRule_55 (by decide) ?_
  refine q_vV (pc := 57) C kX4_47 dX4_readRule_57 (c_X4_expect (c := 59) (s := (numS tp len 1 999 12 (tkS tp len 44 (numS tp len 0 30 11 (tkS tp len 44 (numS tp len 0 3 10 (tkS tp len 114 s))))))) (p48.ag (by rw [u2_row (by decide)]) (by rw [u2_row (by decide)])) (by decide)) (s_2 _) rfl rfl (Nat.le_of_ble_eq_true rfl) (by decide) ⟨by decide, by decide⟩ ?_
  intro f57 h57
  refine q_vret (pc := 60) C dX4_readRule_60 rfl ?_
  refine ⟨h57.1, a51.q h57.2, fun z => ?_⟩
  have z6 := tkS_ok z
  have z5 := (numS_ok z6).1
  have z4 := tkS_ok z5
  have z3 := (numS_ok z4).1
  have z2 := tkS_ok z3
  have x10 := w11 z2
  have x11 := w29 z4
  have x12 := w48 z6
  have e10 : (ruleS tp len s).2.2 10 = v11 := by
    unfold ruleS
    rw [tkS_rd, numS_rd (by decide), tkS_rd, numS_rd (by decide), tkS_rd]; exact x10.1.symm
  have e11 : (ruleS tp len s).2.2 11 = v29 := by
    unfold ruleS
    rw [tkS_rd, numS_rd (by decide), tkS_rd]; exact x11.1.symm
  have e12 : (ruleS tp len s).2.2 12 = v48 := by
    unfold ruleS
    rw [tkS_rd]; exact x12.1.symm
  have f14 : f57 14 = u2 f48 14 7 v48 14 := h57.2.at14
  have f14b : f48 14 = u2 f29 14 6 v29 14 := by rw [h48.2.1.at14, h38.2.at14]
  have f14c : f29 14 = u2 f11 14 5 v11 14 := by rw [h29.2.1.at14, h20.2.at14]
  unfold RuOK
  rw [e10, e11, e12]
  refine ⟨?_, ?_, ?_, x10.2, x11.2, x12.2⟩
  · rw [f14]; simp [u2]; rw [f14b]; simp [u2]; rw [f14c]; simp [u2]
  · rw [f14]; simp [u2]; rw [f14b]; simp [u2]
  · rw [f14]; simp [u2]
def agL (f g : MM) : Prop := ∀ k b, ¬ (k = 2 ∧ 2 ≤ b ∧ b ≤ 7) → ¬ (k = 14 ∧ b = 3) → k ≠ 15 → g k b = f k b
theorem agL.rf {f : MM} : agL f f := fun _ _ _ _ _ => rfl
theorem agL.q {f g h : MM} (a : agL f g) (b : agQ g h) : agL f h := fun k t h1 h2 h3 => (b k t h1).trans (a k t h1 h2 h3)
theorem agL.put {f g : MM} (a : agL f g) {n : Nat} {v x : Int32} : agL f (u2 (u2 g 15 n v) 14 3 x) := fun k t q1 q2 q3 => by
  rw [← a k t q1 q2 q3]
  simp only [u2]
  rw [if_neg (by omega), if_neg (by omega)]
def LgOK (g : MM) (n : Nat) (rd : Nat → Int32) : Prop := (0 < n → g 14 3 = nI n ∧ rd 8 = nI n) ∧ ∀ j, j < n → g 15 j = rd j ∧ 0 ≤ (g 15 j).toInt ∧ (g 15 j).toInt ≤ 9
theorem LgOK.q {g h : MM} {n : Nat} {rd : Nat → Int32} (a : LgOK g n rd) (b : agQ g h) : LgOK h n rd := by
  unfold LgOK
  rw [b.at14, b.row (show 15 ≠ 2 by decide)]
  exact a
theorem LgOK.put {g : MM} {n : Nat} {rd : Nat → Int32} {v : Int32} (a : LgOK g n rd) (h8 : n < 8) (hv : 1 ≤ v ∧ v ≤ 9) : LgOK (u2 (u2 g 15 n v) 14 3 (nI (n + 1))) (n + 1) (upd (upd rd n v) 8 (nI (n + 1))) := by
  refine ⟨fun _ => ⟨by simp [u2], upd_at⟩, fun j hj => ?_⟩
  rw [u2_row (by decide)]
  by_cases e : j = n
  · subst e
    rw [upd_ne (by omega), upd_at]
    have q := ti_le.mp hv.1
    have q2 := ti_le.mp hv.2
    have z : (1 : Int32).toInt = 1 := by decide
    have z2 : (9 : Int32).toInt = 9 := by decide
    rw [show u2 g 15 j v 15 j = v by simp [u2]]
    exact ⟨rfl, by omega, by omega⟩
  · rw [upd_ne (by omega), upd_ne e, show u2 g 15 n v 15 j = g 15 j by simp [u2, e]]
    exact a.2 j (by omega)
def PoLegs (tp : Nat → Int32) (len : Nat) (f : MM) (S : PR) (g : MM) : Prop := PoC tp len S.1 S.2.1 g ∧ agL f g ∧ (S.1 = 0 → ∃ L, 1 ≤ L ∧ L ≤ 8 ∧ LgOK g L S.2.2)
theorem legs_bad {tp : Nat → Int32} {len k n p : Nat} {rd : Nat → Int32} {rm : Bool} (hr : rm = decide (n < 8)) (hn : n ≤ 8) (h : (numC tp len 1 9 rm 0 p).1 ≠ 0) : (legsS tp len (k + 1) n (0, p, rd)).1 = (numC tp len 1 9 rm 0 p).1 ∧ (legsS tp len (k + 1) n (0, p, rd)).2.1 = (numC tp len 1 9 rm 0 p).2 := by
  unfold legsS numC at *
  simp only [if_true] at *
  by_cases a : knd tp len p = 2
  · simp only [if_pos a] at *
    by_cases b : 1 ≤ vl tp len p ∧ vl tp len p ≤ 9
    · simp only [if_pos b] at *
      by_cases c : n = 8
      · subst c
        have : rm = false := by rw [hr]; decide
        subst this
        exact ⟨rfl, rfl⟩
      · have : rm = true := by rw [hr]; exact decide_eq_true (by omega)
        subst this
        exact absurd rfl h
    · simp only [if_neg b]
      exact ⟨trivial, trivial⟩
  · simp only [if_neg a]
    exact ⟨trivial, trivial⟩
theorem legs_good {tp : Nat → Int32} {len k n p : Nat} {rd : Nat → Int32} {rm : Bool} (hr : rm = decide (n < 8)) (hn : n ≤ 8) (h : (numC tp len 1 9 rm 0 p).1 = 0) : n < 8 ∧ (numC tp len 1 9 rm 0 p).2 = nx tp len p ∧ legsS tp len (k + 1) n (0, p, rd) = if isT tp len (nx tp len p) 44 = true then legsS tp len k (n + 1) (0, nx tp len (nx tp len p), upd (upd rd n (vl tp len p)) 8 (nI (n + 1))) else tkS tp len 59 (0, nx tp len p, upd (upd rd n (vl tp len p)) 8 (nI (n + 1))) := by
  unfold numC at *
  rw [legsS]
  simp only [if_true] at *
  by_cases a : knd tp len p = 2
  · simp only [if_pos a] at *
    by_cases b : 1 ≤ vl tp len p ∧ vl tp len p ≤ 9
    · simp only [if_pos b] at *
      by_cases c : rm = true
      · have c8 : n < 8 := by rw [hr] at c; exact of_decide_eq_true c
        simp only [if_pos c, if_neg (show ¬ n = 8 by omega)]
        exact ⟨c8, trivial, trivial⟩
      · rw [if_neg c] at h; cases h
    · rw [if_neg b] at h; cases h
  · rw [if_neg a] at h; cases h
set_option maxRecDepth 100000 in
set_option maxHeartbeats 4000000 in
theorem l_readLegsC {X : XT} {G : GG} {kn : Nat} {f : MM} {tp : Nat → Int32} {len : Nat} {S0 : PR} (C : Cx X G mX4_readLegs 5 0 0 (NN kn)) : ∀ (k n p : Nat) (rd : Nat → Int32) (g : MM), n + k = 9 → n ≤ 8 → AtC tp len g p → LgOK g n rd → agL f g → legsS tp len k n (0, p, rd) = S0 → Vw X G mX4_readLegs.2.2.2.1 0 0 (QQ X G (pV kn (fun g => PoLegs tp len f S0 g)) 0 0) (NN kn) (shF kn) g 10 [some (.ref (G.1 + 2)), some (.ref (G.1 + 14)), some (.int 1), some (.int (nI n)), none] [] := by
  intro k
  induction k with
  | zero => intro n p rd g h1 h2; exact absurd h1 (by omega)
  | succ k ih =>
    intro n p rd g hk hn8 hA hg ha hS
    refine r_iload_n (pc := 10) C dX4_readLegs_10 rfl ?_
    refine r_bipush (pc := 11) C (8) dX4_readLegs_11 (by decide) ?_
    refine q_gt (pc := 13) C n 8 75 rfl rfl (by omega) (by omega) dX4_readLegs_13 (by decide) (fun c13 => ?_) (fun c13 => ?_)
    · exact absurd c13 (by omega)
    · refine r_iload_n (pc := 16) C dX4_readLegs_16 rfl ?_
      refine r_if_eq (pc := 17) C 75 dX4_readLegs_17 (by decide) (fun c17 => ?_) (fun c17 => ?_)
      · exact absurd c17 (by decide)
      · refine r_aload_n (pc := 20) C dX4_readLegs_20 rfl ?_
        refine r_iconst (pc := 21) C (1) dX4_readLegs_21 (by decide) ?_
        refine r_bipush (pc := 22) C (9) dX4_readLegs_22 (by decide) ?_
        refine r_iload_n (pc := 24) C dX4_readLegs_24 rfl ?_
        refine r_bipush (pc := 25) C (8) dX4_readLegs_25 (by decide) ?_
        refine q_ge (pc := 27) C n 8 34 rfl rfl (by omega) (by omega) dX4_readLegs_27 (by decide) (fun c27 => ?_) (fun c27 => ?_)
        · refine r_iconst (pc := 34) C (0) dX4_readLegs_34 (by decide) ?_
          refine q_vI (pc := 35) C kX4_51 dX4_readLegs_35 (c_X4_expectNumber (e := 0) (p := p) (lo := 1) (hi := 9) (rm := false) (Or.inl ⟨rfl, hA⟩)) (s_2 _) rfl rfl (Nat.le_of_ble_eq_true rfl) (by decide) ⟨by decide, by decide⟩ ?_
          intro v35 f35 h35
          refine r_istore (pc := 38) C dX4_readLegs_38 (by decide) rfl ?_
          refine r_aload_n (pc := 40) C dX4_readLegs_40 rfl ?_
          refine r_get (pc := 41) C fX4_19 dX4_readLegs_41 (s_2 _) rfl ?_
          refine r_if_ne (pc := 44) C 62 dX4_readLegs_44 (by decide) (fun c44 => ?_) (fun c44 => ?_)
          · have ne : (numC tp len 1 9 false 0 p).1 ≠ 0 := fun q => c44 (h35.1.flt.mpr q)
            have bd := legs_bad (k := k) (rd := rd) (show false = decide (n < 8) by rw [decide_eq_false (by omega)]) hn8 ne
            refine r_aload_n (pc := 62) C dX4_readLegs_62 rfl ?_
            refine r_bipush (pc := 63) C (44) dX4_readLegs_63 (by decide) ?_
            refine q_vI (pc := 65) C kX4_61 dX4_readLegs_65 (c_X4_accept (e := (numC tp len 1 9 false 0 p).1) (p := (numC tp len 1 9 false 0 p).2) (c := 44) h35.1 (by decide)) (s_2 _) rfl rfl (Nat.le_of_ble_eq_true rfl) (by decide) ⟨by decide, by decide⟩ ?_
            intro v65 f65 h65
            rcases h65 with ⟨q0, q⟩ | ⟨-, rfl, rfl⟩
            · skip
              exact absurd q0 ne
            · skip
              refine r_istore_n (pc := 68) C dX4_readLegs_68 (by decide) rfl ?_
              refine r_iinc (pc := 69) C (nI (n + 1)) dX4_readLegs_69 rfl (nI_inc _) (by decide) rfl ?_
              refine r_goto (pc := 72) C 10 dX4_readLegs_72 (by decide) ?_
              refine r_iload_n (pc := 10) C dX4_readLegs_10 rfl ?_
              refine r_bipush (pc := 11) C (8) dX4_readLegs_11 (by decide) ?_
              refine q_gt (pc := 13) C (n + 1) 8 75 rfl rfl (by omega) (by omega) dX4_readLegs_13 (by decide) (fun c13 => ?_) (fun c13 => ?_)
              · refine r_aload_n (pc := 75) C dX4_readLegs_75 rfl ?_
                refine r_bipush (pc := 76) C (59) dX4_readLegs_76 (by decide) ?_
                refine q_vV (pc := 78) C kX4_47 dX4_readLegs_78 (c_X4_expect (c := 59) (s := (((numC tp len 1 9 false 0 p).1, (numC tp len 1 9 false 0 p).2, rd) : PR)) h35.1 (by decide)) (s_2 _) rfl rfl (Nat.le_of_ble_eq_true rfl) (by decide) ⟨by decide, by decide⟩ ?_
                intro f78 h78
                refine q_vret (pc := 81) C dX4_readLegs_81 rfl ?_
                refine ⟨?_, (ha.q h35.2.1).q h78.2, fun z => ?_⟩
                · have q := h78.1
                  rw [tkS_bad ne] at q
                  exact q.eq (by rw [← hS]; exact bd.1) (by rw [← hS]; exact bd.2)
                · rw [← hS, bd.1] at z
                  exact absurd z ne
              · refine r_iload_n (pc := 16) C dX4_readLegs_16 rfl ?_
                refine r_if_eq (pc := 17) C 75 dX4_readLegs_17 (by decide) (fun c17 => ?_) (fun c17 => ?_)
                · refine r_aload_n (pc := 75) C dX4_readLegs_75 rfl ?_
                  refine r_bipush (pc := 76) C (59) dX4_readLegs_76 (by decide) ?_
                  refine q_vV (pc := 78) C kX4_47 dX4_readLegs_78 (c_X4_expect (c := 59) (s := (((numC tp len 1 9 false 0 p).1, (numC tp len 1 9 false 0 p).2, rd) : PR)) h35.1 (by decide)) (s_2 _) rfl rfl (Nat.le_of_ble_eq_true rfl) (by decide) ⟨by decide, by decide⟩ ?_
                  intro f78 h78
                  refine q_vret (pc := 81) C dX4_readLegs_81 rfl ?_
                  refine ⟨?_, (ha.q h35.2.1).q h78.2, fun z => ?_⟩
                  · have q := h78.1
                    rw [tkS_bad ne] at q
                    exact q.eq (by rw [← hS]; exact bd.1) (by rw [← hS]; exact bd.2)
                  · rw [← hS, bd.1] at z
                    exact absurd z ne
                · exact absurd rfl c17
          · exact absurd (legs_good (k := k) (rd := rd) (show false = decide (n < 8) by rw [decide_eq_false (by omega)]) hn8 (h35.1.flt.mp c44)).1 (by omega)
        · refine r_iconst (pc := 30) C (1) dX4_readLegs_30 (by decide) ?_
          refine r_goto (pc := 31) C 35 dX4_readLegs_31 (by decide) ?_
          refine q_vI (pc := 35) C kX4_51 dX4_readLegs_35 (c_X4_expectNumber (e := 0) (p := p) (lo := 1) (hi := 9) (rm := true) (Or.inl ⟨rfl, hA⟩)) (s_2 _) rfl rfl (Nat.le_of_ble_eq_true rfl) (by decide) ⟨by decide, by decide⟩ ?_
          intro v35 f35 h35
          refine r_istore (pc := 38) C dX4_readLegs_38 (by decide) rfl ?_
          refine r_aload_n (pc := 40) C dX4_readLegs_40 rfl ?_
          refine r_get (pc := 41) C fX4_19 dX4_readLegs_41 (s_2 _) rfl ?_
          refine r_if_ne (pc := 44) C 62 dX4_readLegs_44 (by decide) (fun c44 => ?_) (fun c44 => ?_)
          · have ne : (numC tp len 1 9 true 0 p).1 ≠ 0 := fun q => c44 (h35.1.flt.mpr q)
            have bd := legs_bad (k := k) (rd := rd) (show true = decide (n < 8) by rw [decide_eq_true (by omega)]) hn8 ne
            refine r_aload_n (pc := 62) C dX4_readLegs_62 rfl ?_
            refine r_bipush (pc := 63) C (44) dX4_readLegs_63 (by decide) ?_
            refine q_vI (pc := 65) C kX4_61 dX4_readLegs_65 (c_X4_accept (e := (numC tp len 1 9 true 0 p).1) (p := (numC tp len 1 9 true 0 p).2) (c := 44) h35.1 (by decide)) (s_2 _) rfl rfl (Nat.le_of_ble_eq_true rfl) (by decide) ⟨by decide, by decide⟩ ?_
            intro v65 f65 h65
            rcases h65 with ⟨q0, q⟩ | ⟨-, rfl, rfl⟩
            · skip
              exact absurd q0 ne
            · skip
              refine r_istore_n (pc := 68) C dX4_readLegs_68 (by decide) rfl ?_
              refine r_iinc (pc := 69) C (nI (n + 1)) dX4_readLegs_69 rfl (nI_inc _) (by decide) rfl ?_
              refine r_goto (pc := 72) C 10 dX4_readLegs_72 (by decide) ?_
              refine r_iload_n (pc := 10) C dX4_readLegs_10 rfl ?_
              refine r_bipush (pc := 11) C (8) dX4_readLegs_11 (by decide) ?_
              refine q_gt (pc := 13) C (n + 1) 8 75 rfl rfl (by omega) (by omega) dX4_readLegs_13 (by decide) (fun c13 => ?_) (fun c13 => ?_)
              · refine r_aload_n (pc := 75) C dX4_readLegs_75 rfl ?_
                refine r_bipush (pc := 76) C (59) dX4_readLegs_76 (by decide) ?_
                refine q_vV (pc := 78) C kX4_47 dX4_readLegs_78 (c_X4_expect (c := 59) (s := (((numC tp len 1 9 true 0 p).1, (numC tp len 1 9 true 0 p).2, rd) : PR)) h35.1 (by decide)) (s_2 _) rfl rfl (Nat.le_of_ble_eq_true rfl) (by decide) ⟨by decide, by decide⟩ ?_
                intro f78 h78
                refine q_vret (pc := 81) C dX4_readLegs_81 rfl ?_
                refine ⟨?_, (ha.q h35.2.1).q h78.2, fun z => ?_⟩
                · have q := h78.1
                  rw [tkS_bad ne] at q
                  exact q.eq (by rw [← hS]; exact bd.1) (by rw [← hS]; exact bd.2)
                · rw [← hS, bd.1] at z
                  exact absurd z ne
              · refine r_iload_n (pc := 16) C dX4_readLegs_16 rfl ?_
                refine r_if_eq (pc := 17) C 75 dX4_readLegs_17 (by decide) (fun c17 => ?_) (fun c17 => ?_)
                · refine r_aload_n (pc := 75) C dX4_readLegs_75 rfl ?_
                  refine r_bipush (pc := 76) C (59) dX4_readLegs_76 (by decide) ?_
                  refine q_vV (pc := 78) C kX4_47 dX4_readLegs_78 (c_X4_expect (c := 59) (s := (((numC tp len 1 9 true 0 p).1, (numC tp len 1 9 true 0 p).2, rd) : PR)) h35.1 (by decide)) (s_2 _) rfl rfl (Nat.le_of_ble_eq_true rfl) (by decide) ⟨by decide, by decide⟩ ?_
                  intro f78 h78
                  refine q_vret (pc := 81) C dX4_readLegs_81 rfl ?_
                  refine ⟨?_, (ha.q h35.2.1).q h78.2, fun z => ?_⟩
                  · have q := h78.1
                    rw [tkS_bad ne] at q
                    exact q.eq (by rw [← hS]; exact bd.1) (by rw [← hS]; exact bd.2)
                  · rw [← hS, bd.1] at z
                    exact absurd z ne
                · exact absurd rfl c17
          · have e0 : (numC tp len 1 9 true 0 p).1 = 0 := h35.1.flt.mp c44
            have gd := legs_good (k := k) (rd := rd) (show true = decide (n < 8) by rw [decide_eq_true (by omega)]) hn8 e0
            have hv := h35.2.2 e0
            have A35 : AtC tp len f35 (nx tp len p) := by
              have q := h35.1.good e0
              rw [gd.2.1] at q
              exact q
            refine r_aload_n (pc := 47) C dX4_readLegs_47 rfl ?_
            refine r_getr (pc := 48) C fX4_55 dX4_readLegs_48 (w_0 isW.spare) rfl (w_t0 isW.spare) ?_
            refine r_iload_n (pc := 51) C dX4_readLegs_51 rfl ?_
            refine r_iload (pc := 52) C dX4_readLegs_52 rfl ?_
            refine q_iast (pc := 54) C n dX4_readLegs_54 (w_1 isW.spare) (w_1n isW.spare) rfl (by omega) (by decide) ?_
            refine r_aload_n (pc := 55) C dX4_readLegs_55 rfl ?_
            refine r_iload_n (pc := 56) C dX4_readLegs_56 rfl ?_
            refine r_iconst (pc := 57) C (1) dX4_readLegs_57 (by decide) ?_
            refine r_iadd (pc := 58) C dX4_readLegs_58 ?_
            refine r_put (pc := 59) C fX4_58 ftX7_3 dX4_readLegs_59 (w_0 isW.spare) rfl ?_
            refine q_f (f' := (u2 (u2 f35 15 n v35) 14 3 (nI (n + 1)))) (by rw [show nI n + 1 = nI (n + 1) from nI_1 n]) ?_
            obtain ⟨ev, hv2⟩ := hv
            subst ev
            have A59 : AtC tp len (u2 (u2 f35 15 n (vl tp len p)) 14 3 (nI (n + 1))) (nx tp len p) := ((show PoC tp len 0 (nx tp len p) f35 from Or.inl ⟨rfl, A35⟩).ag (by rw [u2_row (by decide), u2_row (by decide)]) (by rw [u2_row (by decide), u2_row (by decide)])).good rfl
            have a59 := (ha.q h35.2.1).put (n := n) (v := vl tp len p) (x := nI (n + 1))
            have g59 := (hg.q h35.2.1).put gd.1 hv2
            refine r_aload_n (pc := 62) C dX4_readLegs_62 rfl ?_
            refine r_bipush (pc := 63) C (44) dX4_readLegs_63 (by decide) ?_
            refine q_vI (pc := 65) C kX4_61 dX4_readLegs_65 (c_X4_accept (e := 0) (p := nx tp len p) (c := 44) (Or.inl ⟨rfl, A59⟩) (by decide)) (s_2 _) rfl rfl (Nat.le_of_ble_eq_true rfl) (by decide) ⟨by decide, by decide⟩ ?_
            intro v65 f65 h65
            rcases h65 with ⟨-, i44, rfl, A65, t65⟩ | ⟨i44, rfl, rfl⟩
            · skip
              rw [if_pos i44] at gd
              refine r_istore_n (pc := 68) C dX4_readLegs_68 (by decide) rfl ?_
              refine r_iinc (pc := 69) C (nI (n + 1)) dX4_readLegs_69 rfl (nI_inc _) (by decide) rfl ?_
              refine r_goto (pc := 72) C 10 dX4_readLegs_72 (by decide) ?_
              refine v_drop _ (by repeat (first | exact trivial | exact rfl | constructor)) (ih (n + 1) _ _ _ (by omega) (by omega) A65 (g59.q t65) (a59.q t65) ?_)
              rw [← hS, gd.2.2]
            · skip
              have i44b : ¬ isT tp len (nx tp len p) 44 = true := by
                rcases i44 with q | q
                · exact absurd rfl q
                · rw [q]; decide
              rw [if_neg i44b] at gd
              refine r_istore_n (pc := 68) C dX4_readLegs_68 (by decide) rfl ?_
              refine r_iinc (pc := 69) C (nI (n + 1)) dX4_readLegs_69 rfl (nI_inc _) (by decide) rfl ?_
              refine r_goto (pc := 72) C 10 dX4_readLegs_72 (by decide) ?_
              refine r_iload_n (pc := 10) C dX4_readLegs_10 rfl ?_
              refine r_bipush (pc := 11) C (8) dX4_readLegs_11 (by decide) ?_
              refine q_gt (pc := 13) C (n + 1) 8 75 rfl rfl (by omega) (by omega) dX4_readLegs_13 (by decide) (fun c13 => ?_) (fun c13 => ?_)
              · refine r_aload_n (pc := 75) C dX4_readLegs_75 rfl ?_
                refine r_bipush (pc := 76) C (59) dX4_readLegs_76 (by decide) ?_
                refine q_vV (pc := 78) C kX4_47 dX4_readLegs_78 (c_X4_expect (c := 59) (s := ((0, nx tp len p, upd (upd rd n (vl tp len p)) 8 (nI (n + 1))) : PR)) (Or.inl ⟨rfl, A59⟩) (by decide)) (s_2 _) rfl rfl (Nat.le_of_ble_eq_true rfl) (by decide) ⟨by decide, by decide⟩ ?_
                intro f78 h78
                refine q_vret (pc := 81) C dX4_readLegs_81 rfl ?_
                refine ⟨?_, a59.q h78.2, fun z => ⟨n + 1, by omega, by omega, ?_⟩⟩
                · rw [← hS, gd.2.2]; exact h78.1
                · rw [← hS, gd.2.2, tkS_rd]; exact g59.q h78.2
              · refine r_iload_n (pc := 16) C dX4_readLegs_16 rfl ?_
                refine r_if_eq (pc := 17) C 75 dX4_readLegs_17 (by decide) (fun c17 => ?_) (fun c17 => ?_)
                · refine r_aload_n (pc := 75) C dX4_readLegs_75 rfl ?_
                  refine r_bipush (pc := 76) C (59) dX4_readLegs_76 (by decide) ?_
                  refine q_vV (pc := 78) C kX4_47 dX4_readLegs_78 (c_X4_expect (c := 59) (s := ((0, nx tp len p, upd (upd rd n (vl tp len p)) 8 (nI (n + 1))) : PR)) (Or.inl ⟨rfl, A59⟩) (by decide)) (s_2 _) rfl rfl (Nat.le_of_ble_eq_true rfl) (by decide) ⟨by decide, by decide⟩ ?_
                  intro f78 h78
                  refine q_vret (pc := 81) C dX4_readLegs_81 rfl ?_
                  refine ⟨?_, a59.q h78.2, fun z => ⟨n + 1, by omega, by omega, ?_⟩⟩
                  · rw [← hS, gd.2.2]; exact h78.1
                  · rw [← hS, gd.2.2, tkS_rd]; exact g59.q h78.2
                · exact absurd rfl c17
set_option maxRecDepth 100000 in
set_option maxHeartbeats 4000000 in
theorem c_X4_readLegs {G : GG} {kn : Nat} {f : MM} {tp : Nat → Int32} {len : Nat} {rd : Nat → Int32} (h : AtC tp len f 0) : RV G mX4_readLegs 5 kn [.ref (G.1 + 2), .ref (G.1 + 14)] f (fun g => PoLegs tp len f ((fun s => if s.1 = 0 then legsS tp len 9 0 s else s) (tkS tp len 119 (0, 0, rd))) g) := by
  refine Ct.of [some (.ref (G.1 + 2)), some (.ref (G.1 + 14)), none, none, none] rfl (by decide +kernel) rfl (Nat.le_of_ble_eq_true rfl) rfl ?_
  intro X C
  refine r_aload_n (pc := 0) C dX4_readLegs_0 rfl ?_
  refine r_bipush (pc := 1) C (119) dX4_readLegs_1 (by decide) ?_
  refine q_vV (pc := 3) C kX4_47 dX4_readLegs_3 (c_X4_expect (c := 119) (s := ((0, 0, rd) : PR)) (Or.inl ⟨rfl, h⟩) (by decide)) (s_2 _) rfl rfl (Nat.le_of_ble_eq_true rfl) (by decide) ⟨by decide, by decide⟩ ?_
  intro f3 h3
  by_cases e1 : (tkS tp len 119 (0, 0, rd)).1 = 0
  · skip
    have hA := h3.1.good e1
    have eT : (tkS tp len 119 (0, 0, rd)) = (0, nx tp len 0, rd) := by
      by_cases q : isT tp len 0 119 = true
      · exact tkS_yes rfl q
      · rw [tkS_no rfl q] at e1; cases e1
    rw [eT] at hA ⊢
    refine r_iconst (pc := 6) C (1) dX4_readLegs_6 (by decide) ?_
    refine r_istore_n (pc := 7) C dX4_readLegs_7 (by decide) rfl ?_
    refine r_iconst (pc := 8) C (0) dX4_readLegs_8 (by decide) ?_
    refine r_istore_n (pc := 9) C dX4_readLegs_9 (by decide) rfl ?_
    exact l_readLegsC (f := f) C 9 0 (nx tp len 0) rd f3 (by omega) (by omega) hA ⟨fun q => by omega, fun j hj => by omega⟩ (agL.rf.q h3.2) rfl
  · skip
    refine r_iconst (pc := 6) C (1) dX4_readLegs_6 (by decide) ?_
    refine r_istore_n (pc := 7) C dX4_readLegs_7 (by decide) rfl ?_
    refine r_iconst (pc := 8) C (0) dX4_readLegs_8 (by decide) ?_
    refine r_istore_n (pc := 9) C dX4_readLegs_9 (by decide) rfl ?_
    refine r_iload_n (pc := 10) C dX4_readLegs_10 rfl ?_
    refine r_bipush (pc := 11) C (8) dX4_readLegs_11 (by decide) ?_
    refine q_gt (pc := 13) C 0 8 75 rfl rfl (by omega) (by omega) dX4_readLegs_13 (by decide) (fun c13 => ?_) (fun c13 => ?_)
    · exact absurd c13 (by omega)
    · refine r_iload_n (pc := 16) C dX4_readLegs_16 rfl ?_
      refine r_if_eq (pc := 17) C 75 dX4_readLegs_17 (by decide) (fun c17 => ?_) (fun c17 => ?_)
      · exact absurd c17 (by decide)
      · refine r_aload_n (pc := 20) C dX4_readLegs_20 rfl ?_
        refine r_iconst (pc := 21) C (1) dX4_readLegs_21 (by decide) ?_
        refine r_bipush (pc := 22) C (9) dX4_readLegs_22 (by decide) ?_
        refine r_iload_n (pc := 24) C dX4_readLegs_24 rfl ?_
        refine r_bipush (pc := 25) C (8) dX4_readLegs_25 (by decide) ?_
        refine q_ge (pc := 27) C 0 8 34 rfl rfl (by omega) (by omega) dX4_readLegs_27 (by decide) (fun c27 => ?_) (fun c27 => ?_)
        · exact absurd c27 (by omega)
        · refine r_iconst (pc := 30) C (1) dX4_readLegs_30 (by decide) ?_
          refine r_goto (pc := 31) C 35 dX4_readLegs_31 (by decide) ?_
          refine q_vI (pc := 35) C kX4_51 dX4_readLegs_35 (c_X4_expectNumber (e := (tkS tp len 119 (0, 0, rd)).1) (p := (tkS tp len 119 (0, 0, rd)).2.1) (lo := 1) (hi := 9) (rm := true) h3.1) (s_2 _) rfl rfl (Nat.le_of_ble_eq_true rfl) (by decide) ⟨by decide, by decide⟩ ?_
          intro v35 f35 h35
          have en : numC tp len 1 9 true (tkS tp len 119 (0, 0, rd)).1 (tkS tp len 119 (0, 0, rd)).2.1 = ((tkS tp len 119 (0, 0, rd)).1, (tkS tp len 119 (0, 0, rd)).2.1) := by unfold numC; rw [if_neg e1]
          rw [en] at h35
          refine r_istore (pc := 38) C dX4_readLegs_38 (by decide) rfl ?_
          refine r_aload_n (pc := 40) C dX4_readLegs_40 rfl ?_
          refine r_get (pc := 41) C fX4_19 dX4_readLegs_41 (s_2 _) rfl ?_
          refine r_if_ne (pc := 44) C 62 dX4_readLegs_44 (by decide) (fun c44 => ?_) (fun c44 => ?_)
          · refine r_aload_n (pc := 62) C dX4_readLegs_62 rfl ?_
            refine r_bipush (pc := 63) C (44) dX4_readLegs_63 (by decide) ?_
            refine q_vI (pc := 65) C kX4_61 dX4_readLegs_65 (c_X4_accept (e := (tkS tp len 119 (0, 0, rd)).1) (p := (tkS tp len 119 (0, 0, rd)).2.1) (c := 44) h35.1 (by decide)) (s_2 _) rfl rfl (Nat.le_of_ble_eq_true rfl) (by decide) ⟨by decide, by decide⟩ ?_
            intro v65 f65 h65
            rcases h65 with ⟨q0, q⟩ | ⟨-, rfl, rfl⟩
            · skip
              exact absurd q0 e1
            · skip
              refine r_istore_n (pc := 68) C dX4_readLegs_68 (by decide) rfl ?_
              refine r_iinc (pc := 69) C (nI (0 + 1)) dX4_readLegs_69 rfl (nI_inc _) (by decide) rfl ?_
              refine r_goto (pc := 72) C 10 dX4_readLegs_72 (by decide) ?_
              refine r_iload_n (pc := 10) C dX4_readLegs_10 rfl ?_
              refine r_bipush (pc := 11) C (8) dX4_readLegs_11 (by decide) ?_
              refine q_gt (pc := 13) C (0 + 1) 8 75 rfl rfl (by omega) (by omega) dX4_readLegs_13 (by decide) (fun c13 => ?_) (fun c13 => ?_)
              · refine r_aload_n (pc := 75) C dX4_readLegs_75 rfl ?_
                refine r_bipush (pc := 76) C (59) dX4_readLegs_76 (by decide) ?_
                refine q_vV (pc := 78) C kX4_47 dX4_readLegs_78 (c_X4_expect (c := 59) (s := (tkS tp len 119 (0, 0, rd))) h35.1 (by decide)) (s_2 _) rfl rfl (Nat.le_of_ble_eq_true rfl) (by decide) ⟨by decide, by decide⟩ ?_
                intro f78 h78
                refine q_vret (pc := 81) C dX4_readLegs_81 rfl ?_
                refine ⟨?_, ((agL.rf.q h3.2).q h35.2.1).q h78.2, fun z => ?_⟩
                · have q := h78.1
                  rw [tkS_bad e1] at q
                  exact q.eq (by dsimp only; rw [if_neg e1]) (by dsimp only; rw [if_neg e1])
                · dsimp only at z
                  rw [if_neg e1] at z
                  exact absurd z e1
              · refine r_iload_n (pc := 16) C dX4_readLegs_16 rfl ?_
                refine r_if_eq (pc := 17) C 75 dX4_readLegs_17 (by decide) (fun c17 => ?_) (fun c17 => ?_)
                · refine r_aload_n (pc := 75) C dX4_readLegs_75 rfl ?_
                  refine r_bipush (pc := 76) C (59) dX4_readLegs_76 (by decide) ?_
                  refine q_vV (pc := 78) C kX4_47 dX4_readLegs_78 (c_X4_expect (c := 59) (s := (tkS tp len 119 (0, 0, rd))) h35.1 (by decide)) (s_2 _) rfl rfl (Nat.le_of_ble_eq_true rfl) (by decide) ⟨by decide, by decide⟩ ?_
                  intro f78 h78
                  refine q_vret (pc := 81) C dX4_readLegs_81 rfl ?_
                  refine ⟨?_, ((agL.rf.q h3.2).q h35.2.1).q h78.2, fun z => ?_⟩
                  · have q := h78.1
                    rw [tkS_bad e1] at q
                    exact q.eq (by dsimp only; rw [if_neg e1]) (by dsimp only; rw [if_neg e1])
                  · dsimp only at z
                    rw [if_neg e1] at z
                    exact absurd z e1
                · exact absurd rfl c17
          · exact absurd (h35.1.flt.mp c44) e1
