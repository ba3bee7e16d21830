/-! TEXTS: the class reads walkers; a whole text -/
def agW (f g : MM) : Prop := ∀ k b, ¬ (k = 2 ∧ 2 ≤ b ∧ b ≤ 7) → ¬ (k = 16 ∧ b = 1) → ¬ (18 ≤ k ∧ k < 24 ∧ b < 3) → g k b = f k b
theorem agW.rf {f : MM} : agW f f := fun _ _ _ _ _ => rfl
theorem agW.q {f g h : MM} (a : agW f g) (b : agQ g h) : agW f h := fun k t h1 h2 h3 => (b k t h1).trans (a k t h1 h2 h3)
def wkM (g : MM) (n : Nat) (k p s : Int32) : MM := u2 (va_up g (18 + n) (upd (upd (upd (g (18 + n)) 0 k) 1 p) 2 s)) 16 1 (nI (n + 1))
theorem wkM_row {g : MM} {n c : Nat} {k p s : Int32} (h : c ≠ 18 + n) (h2 : c ≠ 16) : wkM g n k p s c = g c := by
  unfold wkM
  rw [u2_row h2, up_ne h]
theorem wkM_at {g : MM} {n : Nat} {k p s : Int32} : wkM g n k p s (18 + n) = upd (upd (upd (g (18 + n)) 0 k) 1 p) 2 s := by
  unfold wkM
  rw [u2_row (by omega), up_at]
theorem wkM_16 {g : MM} {n b : Nat} {k p s : Int32} : wkM g n k p s 16 b = if b = 1 then nI (n + 1) else g 16 b := by
  unfold wkM
  simp only [u2]
  by_cases e : b = 1
  · rw [if_pos ⟨trivial, e⟩, if_pos e]
  · rw [if_neg (fun q => e q.2), if_neg e, up_ne (by omega)]
theorem agW.put {f g : MM} (a : agW f g) {n : Nat} (hn : n < 6) {k p s : Int32} : agW f (wkM g n k p s) := fun c b h1 h2 h3 => by
  rw [← a c b h1 h2 h3]
  by_cases e : c = 18 + n
  · subst e
    rw [wkM_at, upd_ne (by omega), upd_ne (by omega), upd_ne (by omega)]
  · by_cases e2 : c = 16
    · subst e2
      rw [wkM_16, if_neg (by omega)]
    · rw [wkM_row e e2]
def WkOK (g : MM) (n : Nat) (rd : Nat → Int32) : Prop := g 16 1 = nI n ∧ rd 13 = nI n ∧ ∀ w, w < n → (g (18 + w) 0 = rd (14 + w) ∧ 1 ≤ (rd (14 + w)).toInt ∧ (rd (14 + w)).toInt ≤ 5) ∧ (g (18 + w) 1 = rd (20 + w) ∧ 1 ≤ rd (20 + w) ∧ rd (20 + w) ≤ 20) ∧ (g (18 + w) 2 = rd (26 + w) ∧ 0 ≤ rd (26 + w) ∧ rd (26 + w) ≤ 9)
theorem WkOK.q {g h : MM} {n : Nat} {rd : Nat → Int32} (a : WkOK g n rd) (b : agQ g h) : WkOK h n rd := by
  refine ⟨by rw [b.row (by decide)]; exact a.1, a.2.1, fun w hw => ?_⟩
  rw [b.row (show 18 + w ≠ 2 by omega)]
  exact a.2.2 w hw
theorem WkOK.put {g : MM} {n kd : Nat} {rd : Nat → Int32} {v x : Int32} (a : WkOK g n rd) (hn : n < 6) (hk : 1 ≤ kd ∧ kd ≤ 5) (hv : 1 ≤ v ∧ v ≤ 20) (hx : 0 ≤ x ∧ x ≤ 9) : WkOK (wkM g n (nI kd) v x) (n + 1) (upd (upd (upd (upd rd (14 + n) (nI kd)) (20 + n) v) (26 + n) x) 13 (nI (n + 1))) := by
  refine ⟨by rw [wkM_16, if_pos rfl], upd_at, fun w hw => ?_⟩
  by_cases e : w = n
  · subst e
    rw [wkM_at, upd_ne (show 14 + w ≠ 13 by omega), upd_ne (show 14 + w ≠ 26 + w by omega), upd_ne (show 14 + w ≠ 20 + w by omega), upd_at (k := 14 + w), upd_ne (show 20 + w ≠ 13 by omega), upd_ne (show 20 + w ≠ 26 + w by omega), upd_at (k := 20 + w), upd_ne (show 26 + w ≠ 13 by omega), upd_at (k := 26 + w)]
    refine ⟨⟨by rw [upd_ne (by decide), upd_ne (by decide), upd_at], ?_⟩, ⟨by rw [upd_ne (by decide), upd_at], hv⟩, ⟨upd_at, hx⟩⟩
    rw [nI_toInt (by omega)]
    omega
  · rw [wkM_row (by omega) (by omega), upd_ne (show 14 + w ≠ 13 by omega), upd_ne (show 14 + w ≠ 26 + n by omega), upd_ne (show 14 + w ≠ 20 + n by omega), upd_ne (show 14 + w ≠ 14 + n by omega), upd_ne (show 20 + w ≠ 13 by omega), upd_ne (show 20 + w ≠ 26 + n by omega), upd_ne (show 20 + w ≠ 20 + n by omega), upd_ne (show 20 + w ≠ 14 + n by omega), upd_ne (show 26 + w ≠ 13 by omega), upd_ne (show 26 + w ≠ 26 + n by omega), upd_ne (show 26 + w ≠ 20 + n by omega), upd_ne (show 26 + w ≠ 14 + n by omega)]
    exact a.2.2 w (by omega)
def wk1 (tp : Nat → Int32) (len n : Nat) (s : PR) : PR := (if kdS tp len s.2.1 = 0 then 1 else if decide (n < 6) = true then 0 else 3, if kdS tp len s.2.1 = 0 then s.2.1 else if decide (n < 6) = true then nx tp len s.2.1 else s.2.1, upd s.2.2 (14 + n) (nI (kdS tp len s.2.1)))
def wk5 (tp : Nat → Int32) (len n : Nat) (s : PR) : PR := tkS tp len 59 (setRd 13 (nI (n + 1)) (numS tp len 0 9 (26 + n) (tkS tp len 44 (numS tp len 1 20 (20 + n) (wk1 tp len n s)))))
theorem wk_eq {tp : Nat → Int32} {len n : Nat} {s : PR} (hn : n ≤ 6) : (wkrS tp len n s).1 = (wk5 tp len n s).1 ∧ (wkrS tp len n s).2.1 = (wk5 tp len n s).2.1 ∧ ((wk5 tp len n s).1 = 0 → n < 6 ∧ kdS tp len s.2.1 ≠ 0 ∧ wkrS tp len n s = wk5 tp len n s) := by
  unfold wkrS wk5
  by_cases a : kdS tp len s.2.1 = 0
  · have e : (wk1 tp len n s).1 = 1 := if_pos a
    have e2 : (wk1 tp len n s).2.1 = s.2.1 := if_pos a
    have z : (wk1 tp len n s).1 ≠ 0 := by rw [e]; decide
    rw [if_pos a, numS_bad z, tkS_bad z, numS_bad z, tkS_bad (s := setRd 13 (nI (n + 1)) (wk1 tp len n s)) z]
    exact ⟨e.symm, e2.symm, fun q => absurd q z⟩
  · by_cases b : n = 6
    · have e : (wk1 tp len n s).1 = 3 := by unfold wk1; dsimp only; rw [if_neg a, if_neg (by rw [decide_eq_false (by omega)]; decide)]
      have e2 : (wk1 tp len n s).2.1 = s.2.1 := by unfold wk1; dsimp only; rw [if_neg a, if_neg (by rw [decide_eq_false (by omega)]; decide)]
      have z : (wk1 tp len n s).1 ≠ 0 := by rw [e]; decide
      rw [if_neg a, if_pos b, numS_bad z, tkS_bad z, numS_bad z, tkS_bad (s := setRd 13 (nI (n + 1)) (wk1 tp len n s)) z]
      exact ⟨e.symm, e2.symm, fun q => absurd q z⟩
    · have e : wk1 tp len n s = (0, nx tp len s.2.1, upd s.2.2 (14 + n) (nI (kdS tp len s.2.1))) := by
        unfold wk1
        rw [if_neg a, if_neg a, if_pos (decide_eq_true (by omega)), if_pos (decide_eq_true (by omega))]
      rw [if_neg a, if_neg b, ← e]
      exact ⟨rfl, rfl, fun _ => ⟨by omega, a, rfl⟩⟩
theorem numS_at {tp : Nat → Int32} {len : Nat} {lo hi : Int32} {ix : Nat} {s : PR} (h : (numS tp len lo hi ix s).1 = 0) : (numS tp len lo hi ix s).2.2 = upd s.2.2 ix (vl tp len s.2.1) := by
  unfold numS at *
  split
  · rename_i h0
    rw [if_pos h0] at h
    split
    · rename_i h1
      rw [if_pos h1] at h
      split
      · rfl
      · rename_i h2
        rw [if_neg h2] at h
        cases h
    · rename_i h1
      rw [if_neg h1] at h
      cases h
  · rename_i h0
    rw [if_neg h0] at h
    exact absurd h h0
def PoWks (tp : Nat → Int32) (len : Nat) (f : MM) (S : PR) (g : MM) : Prop := PoC tp len S.1 S.2.1 g ∧ agW f g ∧ (S.1 = 0 → ∃ n, n ≤ 6 ∧ WkOK g n S.2.2)
set_option maxRecDepth 100000 in
set_option maxHeartbeats 4000000 in
theorem l_readWalkersC {X : XT} {G : GG} {kn : Nat} {f : MM} {tp : Nat → Int32} {len : Nat} {S0 : PR} (C : Cx X G mX4_readWalkers 5 0 0 (NN kn)) : ∀ (k n : Nat) (s : PR) (g : MM), n + k = 8 → n ≤ 7 → PoC tp len s.1 s.2.1 g → (s.1 = 0 → n ≤ 6 ∧ WkOK g n s.2.2) → agW f g → wksS tp len k n s = S0 → Vw X G mX4_readWalkers.2.2.2.1 0 0 (QQ X G (pV kn (fun g => PoWks tp len f S0 g)) 0 0) (NN kn) (shF kn) g 10 [some (.ref (G.1 + 2)), some (.ref (G.1 + 14)), some (.int (nI n)), none, none, none] [] := by
  intro k
  induction k with
  | zero => intro n s g h1 h2; exact absurd h1 (by omega)
  | succ k ih =>
    intro n s g hk hn7 h hs ha hS
    refine r_iload_n (pc := 10) C dX4_readWalkers_10 rfl ?_
    refine r_bipush (pc := 11) C (6) dX4_readWalkers_11 (by decide) ?_
    refine q_gt (pc := 13) C n 6 119 rfl rfl (by omega) (by omega) dX4_readWalkers_13 (by decide) (fun c13 => ?_) (fun c13 => ?_)
    · refine q_vret (pc := 119) C dX4_readWalkers_119 rfl ?_
      have z : s.1 ≠ 0 := fun q => by have := (hs q).1; omega
      rw [wksS, if_neg z] at hS
      subst hS
      exact ⟨h, ha, fun q => absurd q z⟩
    · have hn6 : n ≤ 6 := c13
      refine r_aload_n (pc := 16) C dX4_readWalkers_16 rfl ?_
      refine r_get (pc := 17) C fX4_19 dX4_readWalkers_17 (s_2 _) rfl ?_
      refine r_if_ne (pc := 20) C 119 dX4_readWalkers_20 (by decide) (fun c20 => ?_) (fun c20 => ?_)
      · refine q_vret (pc := 119) C dX4_readWalkers_119 rfl ?_
        have z : s.1 ≠ 0 := fun q => c20 (h.flt.mpr q)
        rw [wksS, if_neg z] at hS
        subst hS
        exact ⟨h, ha, fun q => absurd q z⟩
      · have e0 := h.flt.mp c20
        have hA := h.good e0
        refine r_aload_n (pc := 23) C dX4_readWalkers_23 rfl ?_
        refine r_get (pc := 24) C fX4_83 dX4_readWalkers_24 (s_2 _) rfl ?_
        refine q_val _ hA.tk ?_
        refine r_iconst (pc := 27) C (-1) dX4_readWalkers_27 (by decide) ?_
        refine r_icmp_eq (pc := 28) C 119 dX4_readWalkers_28 (by decide) (fun c28 => ?_) (fun c28 => ?_)
        · refine q_vret (pc := 119) C dX4_readWalkers_119 rfl ?_
          rw [wksS, if_pos e0, if_pos (tkC_e.mp c28)] at hS
          subst hS
          exact ⟨h, ha, fun q => ⟨n, by omega, (hs q).2⟩⟩
        · refine r_aload_n (pc := 31) C dX4_readWalkers_31 rfl ?_
          refine r_iload_n (pc := 32) C dX4_readWalkers_32 rfl ?_
          refine r_bipush (pc := 33) C (6) dX4_readWalkers_33 (by decide) ?_
          refine q_ge (pc := 35) C n 6 42 rfl rfl (by omega) (by omega) dX4_readWalkers_35 (by decide) (fun c35 => ?_) (fun c35 => ?_)
          · refine r_iconst (pc := 42) C (0) dX4_readWalkers_42 (by decide) ?_
            refine q_vI (pc := 43) C kX4_86 dX4_readWalkers_43 (c_X4_expectSort (tp := tp) (len := len) (p := s.2.1) (rm := false) hA) (s_2 _) rfl rfl (Nat.le_of_ble_eq_true rfl) (by decide) ⟨by decide, by decide⟩ ?_
            intro v43 f43 h43
            have er : false = decide (n < 6) := (decide_eq_false (by omega)).symm
            obtain ⟨ek, p43, q43⟩ := h43
            subst ek
            have P43 : PoC tp len (wk1 tp len n s).1 (wk1 tp len n s).2.1 f43 := by
              unfold wk1
              dsimp only
              rw [← er]
              exact p43
            refine r_istore_n (pc := 46) C dX4_readWalkers_46 (by decide) rfl ?_
            refine r_aload_n (pc := 47) C dX4_readWalkers_47 rfl ?_
            refine r_iconst (pc := 48) C (1) dX4_readWalkers_48 (by decide) ?_
            refine r_bipush (pc := 49) C (20) dX4_readWalkers_49 (by decide) ?_
            refine r_iconst (pc := 51) C (1) dX4_readWalkers_51 (by decide) ?_
            refine q_vI (pc := 52) C kX4_51 dX4_readWalkers_52 (c_X4_expectNumber (e := (wk1 tp len n s).1) (p := (wk1 tp len n s).2.1) (lo := 1) (hi := 20) (rm := true) P43) (s_2 _) rfl rfl (Nat.le_of_ble_eq_true rfl) (by decide) ⟨by decide, by decide⟩ ?_
            intro v52 f52 h52
            have p52 := h52.1.num (20 + n)
            refine r_istore (pc := 55) C dX4_readWalkers_55 (by decide) rfl ?_
            refine r_aload_n (pc := 57) C dX4_readWalkers_57 rfl ?_
            refine r_bipush (pc := 58) C (44) dX4_readWalkers_58 (by decide) ?_
            refine q_vV (pc := 60) C kX4_47 dX4_readWalkers_60 (c_X4_expect (c := 44) (s := (numS tp len 1 20 (20 + n) (wk1 tp len n s))) p52 (by decide)) (s_2 _) rfl rfl (Nat.le_of_ble_eq_true rfl) (by decide) ⟨by decide, by decide⟩ ?_
            intro f60 h60
            refine r_aload_n (pc := 63) C dX4_readWalkers_63 rfl ?_
            refine r_iconst (pc := 64) C (0) dX4_readWalkers_64 (by decide) ?_
            refine r_bipush (pc := 65) C (9) dX4_readWalkers_65 (by decide) ?_
            refine r_iconst (pc := 67) C (1) dX4_readWalkers_67 (by decide) ?_
            refine q_vI (pc := 68) C kX4_51 dX4_readWalkers_68 (c_X4_expectNumber (e := (tkS tp len 44 (numS tp len 1 20 (20 + n) (wk1 tp len n s))).1) (p := (tkS tp len 44 (numS tp len 1 20 (20 + n) (wk1 tp len n s))).2.1) (lo := 0) (hi := 9) (rm := true) h60.1) (s_2 _) rfl rfl (Nat.le_of_ble_eq_true rfl) (by decide) ⟨by decide, by decide⟩ ?_
            intro v68 f68 h68
            have p68 := h68.1.num (26 + n)
            refine r_istore (pc := 71) C dX4_readWalkers_71 (by decide) rfl ?_
            refine r_aload_n (pc := 73) C dX4_readWalkers_73 rfl ?_
            refine r_bipush (pc := 74) C (59) dX4_readWalkers_74 (by decide) ?_
            refine q_vV (pc := 76) C kX4_47 dX4_readWalkers_76 (c_X4_expect (c := 59) (s := (setRd 13 (nI (n + 1)) (numS tp len 0 9 (26 + n) (tkS tp len 44 (numS tp len 1 20 (20 + n) (wk1 tp len n s)))))) p68 (by decide)) (s_2 _) rfl rfl (Nat.le_of_ble_eq_true rfl) (by decide) ⟨by decide, by decide⟩ ?_
            intro f76 h76
            have Q76 : agQ g f76 := (((q43.tr h52.2.1).tr h60.2).tr h68.2.1).tr h76.2
            have ha76 : agW f f76 := ha.q Q76
            have we := wk_eq (tp := tp) (len := len) (s := s) hn6
            refine r_aload_n (pc := 79) C dX4_readWalkers_79 rfl ?_
            refine r_get (pc := 80) C fX4_19 dX4_readWalkers_80 (s_2 _) rfl ?_
            refine r_if_ne (pc := 83) C 113 dX4_readWalkers_83 (by decide) (fun c83 => ?_) (fun c83 => ?_)
            · refine r_iinc (pc := 113) C (nI (n + 1)) dX4_readWalkers_113 rfl (nI_inc _) (by decide) rfl ?_
              refine r_goto (pc := 116) C 10 dX4_readWalkers_116 (by decide) ?_
              have es : wksS tp len k (n + 1) (wkrS tp len n s) = S0 := by
                rw [← hS, wksS, if_pos e0, if_neg (fun q => c28 (tkC_e.mpr q))]
              refine v_drop _ (by repeat (first | exact trivial | exact rfl | constructor)) (ih (n + 1) (wkrS tp len n s) f76 (by omega) (by omega) (h76.1.eq we.1 we.2.1) (fun q => ?_) ha76 es)
              exact absurd (h76.1.flt.mpr (we.1.symm.trans q)) c83
            · have z5 : (wk5 tp len n s).1 = 0 := h76.1.flt.mp c83
              have wq := we.2.2 z5
              have z4b := tkS_ok (s := (setRd 13 (nI (n + 1)) (numS tp len 0 9 (26 + n) (tkS tp len 44 (numS tp len 1 20 (20 + n) (wk1 tp len n s)))))) z5
              have z4 : (numS tp len 0 9 (26 + n) (tkS tp len 44 (numS tp len 1 20 (20 + n) (wk1 tp len n s)))).1 = 0 := z4b
              have z3 := (numS_ok z4).1
              have z2 := tkS_ok z3
              have y2 : (numC tp len 1 20 true (wk1 tp len n s).1 (wk1 tp len n s).2.1).1 = 0 := by rw [numC_S (ix := 20 + n)]; exact z2
              have y4 : (numC tp len 0 9 true (tkS tp len 44 (numS tp len 1 20 (20 + n) (wk1 tp len n s))).1 (tkS tp len 44 (numS tp len 1 20 (20 + n) (wk1 tp len n s))).2.1).1 = 0 := by rw [numC_S (ix := 26 + n)]; exact z4
              refine r_aload_n (pc := 86) C dX4_readWalkers_86 rfl ?_
              refine r_getr (pc := 87) C fX4_74 dX4_readWalkers_87 (w_0 isW.spare) rfl (w_t1 isW.spare) ?_
              refine r_getr (pc := 90) C fX4_90 dX4_readWalkers_90 (p_0 (isP.way isW.spare)) rfl (p_t0 (isP.way isW.spare)) ?_
              refine r_iload_n (pc := 93) C dX4_readWalkers_93 rfl ?_
              refine q_aald (pc := 94) C n dX4_readWalkers_94 (p_1 (isP.way isW.spare)) (by decide) (p_1n (isP.way isW.spare)) rfl wq.1 (by decide) (p_1t (isP.way isW.spare) wq.1) ?_
              refine r_iload_n (pc := 95) C dX4_readWalkers_95 rfl ?_
              refine r_iload (pc := 96) C dX4_readWalkers_96 rfl ?_
              refine r_iload (pc := 98) C dX4_readWalkers_98 rfl ?_
              refine q_vVf (pc := 100) C kX4_94 dX4_readWalkers_100 (c_X6_begin (isK.of (isP.way isW.spare) wq.1)) (k_0 (isK.of (isP.way isW.spare) wq.1)) rfl rfl (Nat.le_of_ble_eq_true rfl) (by decide) ⟨by decide, by decide⟩ ?_
              refine r_aload_n (pc := 103) C dX4_readWalkers_103 rfl ?_
              refine r_getr (pc := 104) C fX4_74 dX4_readWalkers_104 (w_0 isW.spare) rfl (w_t1 isW.spare) ?_
              refine r_iload_n (pc := 107) C dX4_readWalkers_107 rfl ?_
              refine r_iconst (pc := 108) C (1) dX4_readWalkers_108 (by decide) ?_
              refine r_iadd (pc := 109) C dX4_readWalkers_109 ?_
              refine r_put (pc := 110) C fX4_78 ftX3_1 dX4_readWalkers_110 (p_0 (isP.way isW.spare)) rfl ?_
              refine q_f (f' := (wkM f76 n (nI (kdS tp len s.2.1)) v52 v68)) (by rw [show nI n + 1 = nI (n + 1) from nI_1 n]; rfl) ?_
              refine r_iinc (pc := 113) C (nI (n + 1)) dX4_readWalkers_113 rfl (nI_inc _) (by decide) rfl ?_
              refine r_goto (pc := 116) C 10 dX4_readWalkers_116 (by decide) ?_
              have es : wksS tp len k (n + 1) (wkrS tp len n s) = S0 := by
                rw [← hS, wksS, if_pos e0, if_neg (fun q => c28 (tkC_e.mpr q))]
              refine v_drop _ (by repeat (first | exact trivial | exact rfl | constructor)) (ih (n + 1) (wkrS tp len n s) _ (by omega) (by omega) ?_ ?_ (ha76.put wq.1) es)
              · have q : PoC tp len (wk5 tp len n s).1 (wk5 tp len n s).2.1 (wkM f76 n (nI (kdS tp len s.2.1)) v52 v68) := h76.1.ag (wkM_row (by omega) (by omega)) (wkM_row (by omega) (by omega))
                exact q.eq we.1 we.2.1
              · intro _
                refine ⟨by omega, ?_⟩
                rw [wq.2.2, show (wk5 tp len n s).2.2 = upd (upd (upd (upd s.2.2 (14 + n) (nI (kdS tp len s.2.1))) (20 + n) v52) (26 + n) v68) 13 (nI (n + 1)) by
                  unfold wk5
                  rw [tkS_rd]
                  show upd (numS tp len 0 9 (26 + n) (tkS tp len 44 (numS tp len 1 20 (20 + n) (wk1 tp len n s)))).2.2 13 (nI (n + 1)) = _
                  rw [numS_at z4, tkS_rd, numS_at z2, (h52.2.2 y2).1, (h68.2.2 y4).1]
                  rfl]
                exact ((hs e0).2.q Q76).put wq.1 ⟨by omega, kdS_le⟩ (h52.2.2 y2).2 (h68.2.2 y4).2
          · refine r_iconst (pc := 38) C (1) dX4_readWalkers_38 (by decide) ?_
            refine r_goto (pc := 39) C 43 dX4_readWalkers_39 (by decide) ?_
            refine q_vI (pc := 43) C kX4_86 dX4_readWalkers_43 (c_X4_expectSort (tp := tp) (len := len) (p := s.2.1) (rm := true) hA) (s_2 _) rfl rfl (Nat.le_of_ble_eq_true rfl) (by decide) ⟨by decide, by decide⟩ ?_
            intro v43 f43 h43
            have er : true = decide (n < 6) := (decide_eq_true (by omega)).symm
            obtain ⟨ek, p43, q43⟩ := h43
            subst ek
            have P43 : PoC tp len (wk1 tp len n s).1 (wk1 tp len n s).2.1 f43 := by
              unfold wk1
              dsimp only
              rw [← er]
              exact p43
            refine r_istore_n (pc := 46) C dX4_readWalkers_46 (by decide) rfl ?_
            refine r_aload_n (pc := 47) C dX4_readWalkers_47 rfl ?_
            refine r_iconst (pc := 48) C (1) dX4_readWalkers_48 (by decide) ?_
            refine r_bipush (pc := 49) C (20) dX4_readWalkers_49 (by decide) ?_
            refine r_iconst (pc := 51) C (1) dX4_readWalkers_51 (by decide) ?_
            refine q_vI (pc := 52) C kX4_51 dX4_readWalkers_52 (c_X4_expectNumber (e := (wk1 tp len n s).1) (p := (wk1 tp len n s).2.1) (lo := 1) (hi := 20) (rm := true) P43) (s_2 _) rfl rfl (Nat.le_of_ble_eq_true rfl) (by decide) ⟨by decide, by decide⟩ ?_
            intro v52 f52 h52
            have p52 := h52.1.num (20 + n)
            refine r_istore (pc := 55) C dX4_readWalkers_55 (by decide) rfl ?_
            refine r_aload_n (pc := 57) C dX4_readWalkers_57 rfl ?_
            refine r_bipush (pc := 58) C (44) dX4_readWalkers_58 (by decide) ?_
            refine q_vV (pc := 60) C kX4_47 dX4_readWalkers_60 (c_X4_expect (c := 44) (s := (numS tp len 1 20 (20 + n) (wk1 tp len n s))) p52 (by decide)) (s_2 _) rfl rfl (Nat.le_of_ble_eq_true rfl) (by decide) ⟨by decide, by decide⟩ ?_
            intro f60 h60
            refine r_aload_n (pc := 63) C dX4_readWalkers_63 rfl ?_
            refine r_iconst (pc := 64) C (0) dX4_readWalkers_64 (by decide) ?_
            refine r_bipush (pc := 65) C (9) dX4_readWalkers_65 (by decide) ?_
            refine r_iconst (pc := 67) C (1) dX4_readWalkers_67 (by decide) ?_
            refine q_vI (pc := 68) C kX4_51 dX4_readWalkers_68 (c_X4_expectNumber (e := (tkS tp len 44 (numS tp len 1 20 (20 + n) (wk1 tp len n s))).1) (p := (tkS tp len 44 (numS tp len 1 20 (20 + n) (wk1 tp len n s))).2.1) (lo := 0) (hi := 9) (rm := true) h60.1) (s_2 _) rfl rfl (Nat.le_of_ble_eq_true rfl) (by decide) ⟨by decide, by decide⟩ ?_
            intro v68 f68 h68
            have p68 := h68.1.num (26 + n)
            refine r_istore (pc := 71) C dX4_readWalkers_71 (by decide) rfl ?_
            refine r_aload_n (pc := 73) C dX4_readWalkers_73 rfl ?_
            refine r_bipush (pc := 74) C (59) dX4_readWalkers_74 (by decide) ?_
            refine q_vV (pc := 76) C kX4_47 dX4_readWalkers_76 (c_X4_expect (c := 59) (s := (setRd 13 (nI (n + 1)) (numS tp len 0 9 (26 + n) (tkS tp len 44 (numS tp len 1 20 (20 + n) (wk1 tp len n s)))))) p68 (by decide)) (s_2 _) rfl rfl (Nat.le_of_ble_eq_true rfl) (by decide) ⟨by decide, by decide⟩ ?_
            intro f76 h76
            have Q76 : agQ g f76 := (((q43.tr h52.2.1).tr h60.2).tr h68.2.1).tr h76.2
            have ha76 : agW f f76 := ha.q Q76
            have we := wk_eq (tp := tp) (len := len) (s := s) hn6
            refine r_aload_n (pc := 79) C dX4_readWalkers_79 rfl ?_
            refine r_get (pc := 80) C fX4_19 dX4_readWalkers_80 (s_2 _) rfl ?_
            refine r_if_ne (pc := 83) C 113 dX4_readWalkers_83 (by decide) (fun c83 => ?_) (fun c83 => ?_)
            · refine r_iinc (pc := 113) C (nI (n + 1)) dX4_readWalkers_113 rfl (nI_inc _) (by decide) rfl ?_
              refine r_goto (pc := 116) C 10 dX4_readWalkers_116 (by decide) ?_
              have es : wksS tp len k (n + 1) (wkrS tp len n s) = S0 := by
                rw [← hS, wksS, if_pos e0, if_neg (fun q => c28 (tkC_e.mpr q))]
              refine v_drop _ (by repeat (first | exact trivial | exact rfl | constructor)) (ih (n + 1) (wkrS tp len n s) f76 (by omega) (by omega) (h76.1.eq we.1 we.2.1) (fun q => ?_) ha76 es)
              exact absurd (h76.1.flt.mpr (we.1.symm.trans q)) c83
            · have z5 : (wk5 tp len n s).1 = 0 := h76.1.flt.mp c83
              have wq := we.2.2 z5
              have z4b := tkS_ok (s := (setRd 13 (nI (n + 1)) (numS tp len 0 9 (26 + n) (tkS tp len 44 (numS tp len 1 20 (20 + n) (wk1 tp len n s)))))) z5
              have z4 : (numS tp len 0 9 (26 + n) (tkS tp len 44 (numS tp len 1 20 (20 + n) (wk1 tp len n s)))).1 = 0 := z4b
              have z3 := (numS_ok z4).1
              have z2 := tkS_ok z3
              have y2 : (numC tp len 1 20 true (wk1 tp len n s).1 (wk1 tp len n s).2.1).1 = 0 := by rw [numC_S (ix := 20 + n)]; exact z2
              have y4 : (numC tp len 0 9 true (tkS tp len 44 (numS tp len 1 20 (20 + n) (wk1 tp len n s))).1 (tkS tp len 44 (numS tp len 1 20 (20 + n) (wk1 tp len n s))).2.1).1 = 0 := by rw [numC_S (ix := 26 + n)]; exact z4
              refine r_aload_n (pc := 86) C dX4_readWalkers_86 rfl ?_
              refine r_getr (pc := 87) C fX4_74 dX4_readWalkers_87 (w_0 isW.spare) rfl (w_t1 isW.spare) ?_
              refine r_getr (pc := 90) C fX4_90 dX4_readWalkers_90 (p_0 (isP.way isW.spare)) rfl (p_t0 (isP.way isW.spare)) ?_
              refine r_iload_n (pc := 93) C dX4_readWalkers_93 rfl ?_
              refine q_aald (pc := 94) C n dX4_readWalkers_94 (p_1 (isP.way isW.spare)) (by decide) (p_1n (isP.way isW.spare)) rfl wq.1 (by decide) (p_1t (isP.way isW.spare) wq.1) ?_
              refine r_iload_n (pc := 95) C dX4_readWalkers_95 rfl ?_
              refine r_iload (pc := 96) C dX4_readWalkers_96 rfl ?_
              refine r_iload (pc := 98) C dX4_readWalkers_98 rfl ?_
              refine q_vVf (pc := 100) C kX4_94 dX4_readWalkers_100 (c_X6_begin (isK.of (isP.way isW.spare) wq.1)) (k_0 (isK.of (isP.way isW.spare) wq.1)) rfl rfl (Nat.le_of_ble_eq_true rfl) (by decide) ⟨by decide, by decide⟩ ?_
              refine r_aload_n (pc := 103) C dX4_readWalkers_103 rfl ?_
              refine r_getr (pc := 104) C fX4_74 dX4_readWalkers_104 (w_0 isW.spare) rfl (w_t1 isW.spare) ?_
              refine r_iload_n (pc := 107) C dX4_readWalkers_107 rfl ?_
              refine r_iconst (pc := 108) C (1) dX4_readWalkers_108 (by decide) ?_
              refine r_iadd (pc := 109) C dX4_readWalkers_109 ?_
              refine r_put (pc := 110) C fX4_78 ftX3_1 dX4_readWalkers_110 (p_0 (isP.way isW.spare)) rfl ?_
              refine q_f (f' := (wkM f76 n (nI (kdS tp len s.2.1)) v52 v68)) (by rw [show nI n + 1 = nI (n + 1) from nI_1 n]; rfl) ?_
              refine r_iinc (pc := 113) C (nI (n + 1)) dX4_readWalkers_113 rfl (nI_inc _) (by decide) rfl ?_
              refine r_goto (pc := 116) C 10 dX4_readWalkers_116 (by decide) ?_
              have es : wksS tp len k (n + 1) (wkrS tp len n s) = S0 := by
                rw [← hS, wksS, if_pos e0, if_neg (fun q => c28 (tkC_e.mpr q))]
              refine v_drop _ (by repeat (first | exact trivial | exact rfl | constructor)) (ih (n + 1) (wkrS tp len n s) _ (by omega) (by omega) ?_ ?_ (ha76.put wq.1) es)
              · have q : PoC tp len (wk5 tp len n s).1 (wk5 tp len n s).2.1 (wkM f76 n (nI (kdS tp len s.2.1)) v52 v68) := h76.1.ag (wkM_row (by omega) (by omega)) (wkM_row (by omega) (by omega))
                exact q.eq we.1 we.2.1
              · intro _
                refine ⟨by omega, ?_⟩
                rw [wq.2.2, show (wk5 tp len n s).2.2 = upd (upd (upd (upd s.2.2 (14 + n) (nI (kdS tp len s.2.1))) (20 + n) v52) (26 + n) v68) 13 (nI (n + 1)) by
                  unfold wk5
                  rw [tkS_rd]
                  show upd (numS tp len 0 9 (26 + n) (tkS tp len 44 (numS tp len 1 20 (20 + n) (wk1 tp len n s)))).2.2 13 (nI (n + 1)) = _
                  rw [numS_at z4, tkS_rd, numS_at z2, (h52.2.2 y2).1, (h68.2.2 y4).1]
                  rfl]
                exact ((hs e0).2.q Q76).put wq.1 ⟨by omega, kdS_le⟩ (h52.2.2 y2).2 (h68.2.2 y4).2
set_option maxRecDepth 100000 in
set_option maxHeartbeats 4000000 in
theorem c_X4_readWalkers {G : GG} {kn : Nat} {f : MM} {tp : Nat → Int32} {len : Nat} {s : PR} (h : PoC tp len s.1 s.2.1 f) (h13 : s.1 = 0 → s.2.2 13 = 0) : RV G mX4_readWalkers 5 kn [.ref (G.1 + 2), .ref (G.1 + 14)] f (fun g => PoWks tp len f (wksS tp len 8 0 s) g) := by
  refine Ct.of [some (.ref (G.1 + 2)), some (.ref (G.1 + 14)), none, none, none, none] rfl (by decide +kernel) rfl (Nat.le_of_ble_eq_true rfl) rfl ?_
  intro X C
  refine r_aload_n (pc := 0) C dX4_readWalkers_0 rfl ?_
  refine r_getr (pc := 1) C fX4_74 dX4_readWalkers_1 (w_0 isW.spare) rfl (w_t1 isW.spare) ?_
  refine r_iconst (pc := 4) C (0) dX4_readWalkers_4 (by decide) ?_
  refine r_put (pc := 5) C fX4_78 ftX3_1 dX4_readWalkers_5 (p_0 (isP.way isW.spare)) rfl ?_
  refine r_iconst (pc := 8) C (0) dX4_readWalkers_8 (by decide) ?_
  refine r_istore_n (pc := 9) C dX4_readWalkers_9 (by decide) rfl ?_
  refine l_readWalkersC (f := f) (tp := tp) (len := len) C 8 0 s _ (by omega) (by omega) (h.ag (by rw [u2_row (by decide)]) (by rw [u2_row (by decide)])) (fun q => ⟨by omega, by simp [u2, nI_0], by rw [h13 q, nI_0], fun w hw => by omega⟩) (fun k b h1 h2 h3 => ?_) rfl
  simp only [u2]
  rw [if_neg (by omega)]
def agI (f g : MM) : Prop := ∀ k b, ¬ (k = 2 ∧ b ≠ 0) → ¬ (k = 14 ∧ b ≠ 4) → k ≠ 15 → ¬ (k = 16 ∧ b = 1) → ¬ (18 ≤ k ∧ k < 24 ∧ b < 3) → g k b = f k b
def SpOK (g : MM) (rd : Nat → Int32) : Prop := ∃ n L, n ≤ 6 ∧ 1 ≤ L ∧ L ≤ 8 ∧ LgOK g L rd ∧ RuOK g rd ∧ WkOK g n rd
def PoInto (f : MM) (S : PR) (v : Int32) (g : MM) : Prop := agI f g ∧ g 2 1 = 0 ∧ ((S.1 ≠ 0 ∧ v = 0 ∧ g 2 7 = nI S.2.1 ∧ g 2 8 = nI S.1) ∨ (S.1 = 0 ∧ v = 1 ∧ g 2 8 = f 2 8 ∧ g 14 2 = 1 ∧ SpOK g S.2.2))
theorem wkrS_lo {tp : Nat → Int32} {len n t : Nat} {s : PR} (hn : n ≤ 6) (h : t < 13 ∨ 32 ≤ t) : (wkrS tp len n s).2.2 t = s.2.2 t := by
  unfold wkrS
  split
  · rfl
  · split
    · rfl
    · rw [tkS_rd]
      show upd _ 13 _ t = _
      rw [upd_ne (by omega), numS_rd (by omega), tkS_rd, numS_rd (by omega)]
      exact upd_ne (by omega)
theorem wksS_lo {tp : Nat → Int32} {len t : Nat} (h : t < 13 ∨ 32 ≤ t) : ∀ (k n : Nat) (s : PR), (s.1 = 0 → n ≤ 6) → (wksS tp len k n s).2.2 t = s.2.2 t := by
  intro k
  induction k with
  | zero => intro n s _; rfl
  | succ k ih =>
    intro n s hk
    unfold wksS
    split
    · rename_i z
      split
      · rfl
      · rw [ih (n + 1) _ (fun q => by have := (wkrS_13 q).1; have := hk z; omega)]
        exact wkrS_lo (hk z) h
    · rfl
theorem lru_eq {tp : Nat → Int32} {len : Nat} {rd : Nat → Int32} : lruS tp len rd = ruleS tp len ((fun s => if s.1 = 0 then legsS tp len 9 0 s else s) (tkS tp len 119 (0, 0, rd))) := by
  unfold lruS
  dsimp only
  by_cases q : (if (tkS tp len 119 (0, 0, rd)).1 = 0 then legsS tp len 9 0 (tkS tp len 119 (0, 0, rd)) else tkS tp len 119 (0, 0, rd)).1 = 0
  · rw [if_pos q]
  · rw [if_neg q, ruleS_bad q]
theorem legs_t {tp : Nat → Int32} {len t : Nat} {rd : Nat → Int32} (h : 9 ≤ t) : (((fun s => if s.1 = 0 then legsS tp len 9 0 s else s) (tkS tp len 119 (0, 0, rd)))).2.2 t = rd t := by
  dsimp only
  split
  · rw [legsS_rd h 9 0 _ (by omega), tkS_rd]
  · rw [tkS_rd]
theorem lru_t {tp : Nat → Int32} {len t : Nat} {rd : Nat → Int32} (h : 9 ≤ t) (h2 : t ≠ 10 ∧ t ≠ 11 ∧ t ≠ 12) : (lruS tp len rd).2.2 t = rd t := by
  rw [lru_eq, ruleS_rd h2, legs_t h]
theorem parse_t {tp : Nat → Int32} {len t : Nat} {rd : Nat → Int32} (h : t = 9 ∨ 32 ≤ t) : (parseS tp len rd).2.2 t = rd t := by
  unfold parseS
  rw [wksS_lo (by omega) 8 0 _ (fun _ => by omega), lru_t (by omega) (by omega)]
theorem wks_ok {tp : Nat → Int32} {len k n : Nat} {s : PR} (h : (wksS tp len k n s).1 = 0) : s.1 = 0 := by
  cases k with
  | zero => cases h
  | succ k =>
    by_cases q : s.1 = 0
    · exact q
    · rw [wksS_bad q] at h; exact h
theorem ruleS_ok {tp : Nat → Int32} {len : Nat} {s : PR} (h : (ruleS tp len s).1 = 0) : s.1 = 0 := by
  by_cases q : s.1 = 0
  · exact q
  · rw [ruleS_bad q] at h; exact h
theorem ag_lg {f g : MM} {rd rd2 : Nat → Int32} {L : Nat} (a : LgOK f L rd) (h14 : g 14 3 = f 14 3) (h15 : g 15 = f 15) (hL : L ≤ 8) (hr : ∀ t, t ≤ 8 → rd2 t = rd t) : LgOK g L rd2 := by
  unfold LgOK
  rw [h14, h15]
  refine ⟨fun q => ⟨(a.1 q).1, by rw [hr 8 (by omega)]; exact (a.1 q).2⟩, fun j hj => ?_⟩
  rw [hr j (by omega)]
  exact a.2 j hj
theorem ag_ru {f g : MM} {rd rd2 : Nat → Int32} (a : RuOK f rd) (h14 : g 14 5 = f 14 5 ∧ g 14 6 = f 14 6 ∧ g 14 7 = f 14 7) (hr : rd2 10 = rd 10 ∧ rd2 11 = rd 11 ∧ rd2 12 = rd 12) : RuOK g rd2 := by
  unfold RuOK
  rw [h14.1, h14.2.1, h14.2.2, hr.1, hr.2.1, hr.2.2]
  exact a
set_option maxRecDepth 100000 in
set_option maxHeartbeats 4000000 in
theorem c_X4_readInto {G : GG} {kn : Nat} {f : MM} {tp : Nat → Int32} {len : Nat} {rd : Nat → Int32} (hlen : len ≤ 120) (ht : f 3 = tp) (hl : f 2 1 = nI len) (h13 : rd 13 = 0) : RI G mX4_readInto 6 kn [.ref (G.1 + 2), .ref (G.1 + 14)] f (fun v g => PoInto f (parseS tp len rd) v g) := by
  refine Ct.of [some (.ref (G.1 + 2)), some (.ref (G.1 + 14))] rfl (by decide +kernel) rfl (Nat.le_of_ble_eq_true rfl) rfl ?_
  intro X C
  refine r_aload_n (pc := 0) C dX4_readInto_0 rfl ?_
  refine r_iconst (pc := 1) C (0) dX4_readInto_1 (by decide) ?_
  refine r_put (pc := 2) C fX4_19 ftX4_6 dX4_readInto_2 (s_2 _) rfl ?_
  refine r_aload_n (pc := 5) C dX4_readInto_5 rfl ?_
  refine r_iconst (pc := 6) C (0) dX4_readInto_6 (by decide) ?_
  refine r_put (pc := 7) C fX4_22 ftX4_2 dX4_readInto_7 (s_2 _) rfl ?_
  refine r_aload_n (pc := 10) C dX4_readInto_10 rfl ?_
  refine q_vV (pc := 11) C kX4_25 dX4_readInto_11 (c_X4_advance (tp := tp) (len := len) (q := 0) hlen (by rw [u2_row (by decide), u2_row (by decide)]; exact ht) (by simp [u2, hl]) (by simp [u2]; rfl) (by simp [u2]) (by omega)) (s_2 _) rfl rfl (Nat.le_of_ble_eq_true rfl) (by decide) ⟨by decide, by decide⟩ ?_
  intro f11 h11
  refine r_aload_n (pc := 14) C dX4_readInto_14 rfl ?_
  refine r_aload_n (pc := 15) C dX4_readInto_15 rfl ?_
  refine q_vV (pc := 16) C kX4_28 dX4_readInto_16 (c_X4_readLegs (rd := rd) h11.1) (s_2 _) rfl rfl (Nat.le_of_ble_eq_true rfl) (by decide) ⟨by decide, by decide⟩ ?_
  intro f16 h16
  refine r_aload_n (pc := 19) C dX4_readInto_19 rfl ?_
  refine r_aload_n (pc := 20) C dX4_readInto_20 rfl ?_
  refine q_vV (pc := 21) C kX4_32 dX4_readInto_21 (c_X4_readRule (s := ((fun s => if s.1 = 0 then legsS tp len 9 0 s else s) (tkS tp len 119 (0, 0, rd)))) h16.1) (s_2 _) rfl rfl (Nat.le_of_ble_eq_true rfl) (by decide) ⟨by decide, by decide⟩ ?_
  intro f21 h21
  rw [← lru_eq] at h21
  refine r_aload_n (pc := 24) C dX4_readInto_24 rfl ?_
  refine r_aload_n (pc := 25) C dX4_readInto_25 rfl ?_
  refine q_vV (pc := 26) C kX4_35 dX4_readInto_26 (c_X4_readWalkers (s := (lruS tp len rd)) h21.1 (fun _ => by rw [lru_t (by decide) (by decide)]; exact h13)) (s_2 _) rfl rfl (Nat.le_of_ble_eq_true rfl) (by decide) ⟨by decide, by decide⟩ ?_
  intro f26 h26
  have P26 : PoC tp len (parseS tp len rd).1 (parseS tp len rd).2.1 f26 := h26.1
  have aI : ∀ k b, ¬ (k = 2 ∧ b ≠ 0) → ¬ (k = 14 ∧ b ≠ 4) → k ≠ 15 → ¬ (k = 16 ∧ b = 1) → ¬ (18 ≤ k ∧ k < 24 ∧ b < 3) → f26 k b = f k b := fun k b h1 h2 h3 h4 h5 => by
    rw [h26.2.1 k b (by omega) (by omega) (by omega), h21.2.1 k b (by omega) (by omega), h16.2.1 k b (by omega) (by omega) (by omega), h11.2 k b (by omega)]
    simp only [u2]
    rw [if_neg (by omega), if_neg (by omega)]
  have e28 : f26 2 8 = f 2 8 := by
    rw [h26.2.1 2 8 (by omega) (by omega) (by omega), h21.2.1 2 8 (by omega) (by omega), h16.2.1 2 8 (by omega) (by omega) (by omega), h11.2 2 8 (by omega)]
    simp [u2]
  refine r_aload_n (pc := 29) C dX4_readInto_29 rfl ?_
  refine r_iconst (pc := 30) C (0) dX4_readInto_30 (by decide) ?_
  refine r_put (pc := 31) C fX4_15 ftX4_1 dX4_readInto_31 (s_2 _) rfl ?_
  refine r_aload_n (pc := 34) C dX4_readInto_34 rfl ?_
  refine r_get (pc := 35) C fX4_19 dX4_readInto_35 (s_2 _) rfl ?_
  refine q_val (f26 2 6) (by simp [u2]) ?_
  refine r_if_eq (pc := 38) C 49 dX4_readInto_38 (by decide) (fun c38 => ?_) (fun c38 => ?_)
  · have z : (parseS tp len rd).1 = 0 := P26.flt.mp c38
    refine r_aload_n (pc := 49) C dX4_readInto_49 rfl ?_
    refine r_aload_n (pc := 50) C dX4_readInto_50 rfl ?_
    refine r_get (pc := 51) C fX4_19 dX4_readInto_51 (s_2 _) rfl ?_
    refine r_if_ne (pc := 54) C 61 dX4_readInto_54 (by decide) (fun c54 => ?_) (fun c54 => ?_)
    · exact absurd (show f26 2 6 = 0 from c38) (by simpa [u2] using c54)
    · refine r_iconst (pc := 57) C (1) dX4_readInto_57 (by decide) ?_
      refine r_goto (pc := 58) C 62 dX4_readInto_58 (by decide) ?_
      refine r_putz (pc := 62) C fX4_41 ftX7_2 dX4_readInto_62 (w_0 isW.spare) rfl (Or.inr rfl) ?_
      refine r_aload_n (pc := 65) C dX4_readInto_65 rfl ?_
      refine r_get (pc := 66) C fX4_41 dX4_readInto_66 (w_0 isW.spare) rfl ?_
      refine q_zret (pc := 69) C dX4_readInto_69 rfl (by simp [u2]) ?_
      refine ⟨?_, by simp [u2], Or.inr ⟨z, by simp [u2], ?_, by simp [u2], ?_⟩⟩
      · intro k b h1 h2 h3 h4 h5
        simp only [u2]
        rw [if_neg (by omega), if_neg (by omega)]
        exact aI k b h1 h2 h3 h4 h5
      · simp [u2]; exact e28
      · have zl := wks_ok z
        have zr : (ruleS tp len ((fun s => if s.1 = 0 then legsS tp len 9 0 s else s) (tkS tp len 119 (0, 0, rd)))).1 = 0 := by rw [← lru_eq]; exact zl
        obtain ⟨L, hL1, hL8, hLg⟩ := h16.2.2 (ruleS_ok zr)
        have hRu := h21.2.2 zl
        obtain ⟨n, hn, hWk⟩ := h26.2.2 z
        refine ⟨n, L, hn, hL1, hL8, ag_lg hLg ?_ ?_ hL8 ?_, ag_ru hRu ?_ ?_, ?_, hWk.2.1, fun w hw => ?_⟩
        · simp [u2]
          rw [h26.2.1 14 3 (by omega) (by omega) (by omega), h21.2.1 14 3 (by omega) (by omega)]
        · rw [u2_row (by decide), u2_row (by decide)]
          funext b
          rw [h26.2.1 15 b (by omega) (by omega) (by omega), h21.2.1 15 b (by omega) (by omega)]
        · intro t ht
          unfold parseS
          rw [wksS_lo (by omega) 8 0 _ (fun _ => by omega), lru_eq, ruleS_rd (by omega)]
        · simp [u2]
          exact ⟨h26.2.1 14 5 (by omega) (by omega) (by omega), h26.2.1 14 6 (by omega) (by omega) (by omega), h26.2.1 14 7 (by omega) (by omega) (by omega)⟩
        · unfold parseS
          rw [wksS_lo (by omega) 8 0 _ (fun _ => by omega), wksS_lo (by omega) 8 0 _ (fun _ => by omega), wksS_lo (by omega) 8 0 _ (fun _ => by omega)]
          exact ⟨rfl, rfl, rfl⟩
        · rw [u2_row (by decide), u2_row (by decide)]; exact hWk.1
        · rw [u2_row (by omega), u2_row (by omega)]
          exact hWk.2.2 w hw
  · have z : (parseS tp len rd).1 ≠ 0 := fun q => c38 (P26.flt.mpr q)
    have b26 := P26.bad z
    refine r_aload_n (pc := 41) C dX4_readInto_41 rfl ?_
    refine r_aload_n (pc := 42) C dX4_readInto_42 rfl ?_
    refine r_get (pc := 43) C fX4_19 dX4_readInto_43 (s_2 _) rfl ?_
    refine r_put (pc := 46) C fX4_38 ftX4_8 dX4_readInto_46 (s_2 _) rfl ?_
    refine r_aload_n (pc := 49) C dX4_readInto_49 rfl ?_
    refine r_aload_n (pc := 50) C dX4_readInto_50 rfl ?_
    refine r_get (pc := 51) C fX4_19 dX4_readInto_51 (s_2 _) rfl ?_
    refine r_if_ne (pc := 54) C 61 dX4_readInto_54 (by decide) (fun c54 => ?_) (fun c54 => ?_)
    · refine r_iconst (pc := 61) C (0) dX4_readInto_61 (by decide) ?_
      refine r_putz (pc := 62) C fX4_41 ftX7_2 dX4_readInto_62 (w_0 isW.spare) rfl (Or.inl rfl) ?_
      refine r_aload_n (pc := 65) C dX4_readInto_65 rfl ?_
      refine r_get (pc := 66) C fX4_41 dX4_readInto_66 (w_0 isW.spare) rfl ?_
      refine q_zret (pc := 69) C dX4_readInto_69 rfl (by simp [u2]) ?_
      refine ⟨?_, by simp [u2], Or.inl ⟨z, by simp [u2], ?_, ?_⟩⟩
      · intro k b h1 h2 h3 h4 h5
        simp only [u2]
        rw [if_neg (by omega), if_neg (by omega), if_neg (by omega)]
        exact aI k b h1 h2 h3 h4 h5
      · simp [u2]; exact b26.2.2
      · simp [u2]; exact b26.2.1
    · exact absurd (show f26 2 6 = 0 by simpa [u2] using c54) c38
