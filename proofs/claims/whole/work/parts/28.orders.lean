/-! THE CLASS: orders, sacks, parties -/
set_option maxRecDepth 100000 in
set_option maxHeartbeats 4000000 in
theorem c_X2_swap {G : GG} {kn : Nat} {f : MM} {a b : Nat} (ha : a < 6) (hb : b < 6) : CV G mX2_swap 1 kn [.ref (G.1 + 27), .int (nI a), .int (nI b)] f (u2 (u2 f 45 a (f 45 b)) 45 b (f 45 a)) := by
  refine Ct.of [some (.ref (G.1 + 27)), some (.int (nI a)), some (.int (nI b)), none] rfl (by decide +kernel) rfl (Nat.le_of_ble_eq_true rfl) rfl ?_
  intro X C
  refine r_aload_n (pc := 0) C dX2_swap_0 rfl ?_
  refine r_getr (pc := 1) C fX2_25 dX2_swap_1 (s_27 _) rfl rfl ?_
  refine r_iload_n (pc := 4) C dX2_swap_4 rfl ?_
  refine q_iald (pc := 5) C a dX2_swap_5 (s_45 _) (sn_45 _) rfl (by omega) (by decide) ?_
  refine r_istore_n (pc := 6) C dX2_swap_6 (by decide) rfl ?_
  refine r_aload_n (pc := 7) C dX2_swap_7 rfl ?_
  refine r_getr (pc := 8) C fX2_25 dX2_swap_8 (s_27 _) rfl rfl ?_
  refine r_iload_n (pc := 11) C dX2_swap_11 rfl ?_
  refine r_aload_n (pc := 12) C dX2_swap_12 rfl ?_
  refine r_getr (pc := 13) C fX2_25 dX2_swap_13 (s_27 _) rfl rfl ?_
  refine r_iload_n (pc := 16) C dX2_swap_16 rfl ?_
  refine q_iald (pc := 17) C b dX2_swap_17 (s_45 _) (sn_45 _) rfl (by omega) (by decide) ?_
  refine q_iast (pc := 18) C a dX2_swap_18 (s_45 _) (sn_45 _) rfl (by omega) (by decide) ?_
  refine r_aload_n (pc := 19) C dX2_swap_19 rfl ?_
  refine r_getr (pc := 20) C fX2_25 dX2_swap_20 (s_27 _) rfl rfl ?_
  refine r_iload_n (pc := 23) C dX2_swap_23 rfl ?_
  refine r_iload_n (pc := 24) C dX2_swap_24 rfl ?_
  refine q_iast (pc := 25) C b dX2_swap_25 (s_45 _) (sn_45 _) rfl (by omega) (by decide) ?_
  refine q_vret (pc := 26) C dX2_swap_26 rfl ?_
  rfl
set_option maxRecDepth 100000 in
set_option maxHeartbeats 4000000 in
theorem l_nextOrder1 {X : XT} {G : GG} {kn : Nat} {Q : State → Prop} {f : MM} {n : Nat} {l : List Nat} {R : Option Nat} (C : Cx X G mX2_nextOrder 2 0 0 (NN kn)) (hn : n ≤ 6) (hr : rowIs f 45 n l)
    (K0 : R = none → Vw X G mX2_nextOrder.2.2.2.1 0 0 Q (NN kn) (shF kn) f 31 [some (.ref (G.1 + 27)), some (.int (nI n)), some (.int (-1)), none, none, none] []) (K1 : ∀ k, R = some k → Vw X G mX2_nextOrder.2.2.2.1 0 0 Q (NN kn) (shF kn) f 31 [some (.ref (G.1 + 27)), some (.int (nI n)), some (.int (nI k)), none, none, none] []) : ∀ (c : Nat), c < n → kF l c = R → Vw X G mX2_nextOrder.2.2.2.1 0 0 Q (NN kn) (shF kn) f 4 [some (.ref (G.1 + 27)), some (.int (nI n)), some (.int (nI c - 1)), none, none, none] [] := by
  intro c
  induction c with
  | zero =>
    intro hc hR
    rw [show nI 0 - 1 = -1 by decide]
    refine r_iload_n (pc := 4) C dX2_nextOrder_4 rfl ?_
    refine r_if_lt (pc := 5) C 31 dX2_nextOrder_5 (by decide) (fun c5 => ?_) (fun c5 => ?_)
    · exact K0 hR.symm
    · exact absurd c5 (by decide)
  | succ c ih =>
    intro hc hR
    rw [nI_pred]
    refine r_iload_n (pc := 4) C dX2_nextOrder_4 rfl ?_
    refine r_if_lt (pc := 5) C 31 dX2_nextOrder_5 (by decide) (fun c5 => ?_) (fun c5 => ?_)
    · exact absurd c5 (nI_pos (by omega))
    · refine r_aload_n (pc := 8) C dX2_nextOrder_8 rfl ?_
      refine r_getr (pc := 9) C fX2_25 dX2_nextOrder_9 (s_27 _) rfl rfl ?_
      refine r_iload_n (pc := 12) C dX2_nextOrder_12 rfl ?_
      refine q_iald (pc := 13) C c dX2_nextOrder_13 (s_45 _) (sn_45 _) rfl (by omega) (by decide) ?_
      refine r_aload_n (pc := 14) C dX2_nextOrder_14 rfl ?_
      refine r_getr (pc := 15) C fX2_25 dX2_nextOrder_15 (s_27 _) rfl rfl ?_
      refine r_iload_n (pc := 18) C dX2_nextOrder_18 rfl ?_
      refine r_iconst (pc := 19) C (1) dX2_nextOrder_19 (by decide) ?_
      refine r_iadd (pc := 20) C dX2_nextOrder_20 ?_
      refine q_iald (pc := 21) C (c + 1) dX2_nextOrder_21 (s_45 _) (sn_45 _) (nI_add c 1) (by omega) (by decide) ?_
      have b1 := hr.2.1 c (by omega)
      have b2 := hr.2.1 (c + 1) (by omega)
      refine q_le (pc := 22) C (l.getD c 0) (l.getD (c + 1) 0) 31 (hr.2.2 c (by omega)) (hr.2.2 (c + 1) (by omega)) (by omega) (by omega) dX2_nextOrder_22 (by decide) (fun c22 => ?_) (fun c22 => ?_)
      · exact K1 c (by rw [← hR, kF, if_neg (by omega)])
      · refine r_iinc (pc := 25) C (nI c - 1) dX2_nextOrder_25 rfl (nI_m1e c) (by decide) rfl ?_
        refine r_goto (pc := 28) C 4 dX2_nextOrder_28 (by decide) ?_
        exact ih (by omega) (by rw [← hR, kF, if_pos (by omega)])
set_option maxRecDepth 100000 in
set_option maxHeartbeats 4000000 in
theorem l_nextOrder2 {X : XT} {G : GG} {kn : Nat} {Q : State → Prop} {f : MM} {n k J : Nat} {l : List Nat} (C : Cx X G mX2_nextOrder 2 0 0 (NN kn)) (hn : n ≤ 6) (hr : rowIs f 45 n l) (hk : l.getD k 0 ≤ l.getD (k + 1) 0) (hkn : k < n) (K : Vw X G mX2_nextOrder.2.2.2.1 0 0 Q (NN kn) (shF kn) f 67 [some (.ref (G.1 + 27)), some (.int (nI n)), some (.int (nI k)), some (.int (nI J)), none, none] []) : ∀ (j : Nat), k + 1 ≤ j → j < n → jF l k j = J → Vw X G mX2_nextOrder.2.2.2.1 0 0 Q (NN kn) (shF kn) f 41 [some (.ref (G.1 + 27)), some (.int (nI n)), some (.int (nI k)), some (.int (nI j)), none, none] [] := by
  intro j
  induction j with
  | zero => intro h; exact absurd h (by omega)
  | succ j ih =>
    intro h1 h2 hJ
    have b1 := hr.2.1 k hkn
    have b2 := hr.2.1 (j + 1) h2
    refine r_iload_n (pc := 41) C dX2_nextOrder_41 rfl ?_
    refine r_iload_n (pc := 42) C dX2_nextOrder_42 rfl ?_
    refine q_le (pc := 43) C (j + 1) k 67 rfl rfl (by omega) (by omega) dX2_nextOrder_43 (by decide) (fun c43 => ?_) (fun c43 => ?_)
    · exact absurd c43 (by omega)
    · refine r_aload_n (pc := 46) C dX2_nextOrder_46 rfl ?_
      refine r_getr (pc := 47) C fX2_25 dX2_nextOrder_47 (s_27 _) rfl rfl ?_
      refine r_iload_n (pc := 50) C dX2_nextOrder_50 rfl ?_
      refine q_iald (pc := 51) C (j + 1) dX2_nextOrder_51 (s_45 _) (sn_45 _) rfl (by omega) (by decide) ?_
      refine r_aload_n (pc := 52) C dX2_nextOrder_52 rfl ?_
      refine r_getr (pc := 53) C fX2_25 dX2_nextOrder_53 (s_27 _) rfl rfl ?_
      refine r_iload_n (pc := 56) C dX2_nextOrder_56 rfl ?_
      refine q_iald (pc := 57) C k dX2_nextOrder_57 (s_45 _) (sn_45 _) rfl (by omega) (by decide) ?_
      refine q_ge (pc := 58) C (l.getD (j + 1) 0) (l.getD k 0) 67 (hr.2.2 (j + 1) (by omega)) (hr.2.2 k (by omega)) (by omega) (by omega) dX2_nextOrder_58 (by decide) (fun c58 => ?_) (fun c58 => ?_)
      · have e : jF l k (j + 1) = j + 1 := by rw [jF, if_neg (by omega)]
        rw [e] at hJ
        subst hJ
        exact K
      · refine r_iinc (pc := 61) C (nI j) dX2_nextOrder_61 rfl (nI_dec j) (by decide) rfl ?_
        refine r_goto (pc := 64) C 41 dX2_nextOrder_64 (by decide) ?_
        have hjk : j ≠ k := fun q => by subst q; omega
        exact ih (by omega) (by omega) (by rw [← hJ, jF, if_pos (by omega)])
set_option maxRecDepth 100000 in
set_option maxHeartbeats 4000000 in
theorem l_nextOrder3 {X : XT} {G : GG} {kn : Nat} {Q : State → Prop} {f : MM} {n : Nat} {L0 : List Nat} (C : Cx X G mX2_nextOrder 2 0 0 (NN kn)) (hn : n ≤ 6) (K : ∀ (g : MM), rowIs g 45 n L0 → (∀ k, k ≠ 45 → g k = f k) → Vw X G mX2_nextOrder.2.2.2.1 0 0 Q (NN kn) (shF kn) g 107 [some (.ref (G.1 + 27)), none, none, none, none, none] []) : ∀ (m a b : Nat) (l : List Nat) (g : MM), b < n → b < a + m → rowIs g 45 n l → (∀ k, k ≠ 45 → g k = f k) → rvF m l a b = L0 → a < 7 → Vw X G mX2_nextOrder.2.2.2.1 0 0 Q (NN kn) (shF kn) g 83 [some (.ref (G.1 + 27)), some (.int (nI n)), none, none, some (.int (nI a)), some (.int (nI b))] [] := by
  intro m
  induction m with
  | zero =>
    intro a b l g hb hm hr ho hL ha
    cases hL
    refine r_iload (pc := 83) C dX2_nextOrder_83 rfl ?_
    refine r_iload (pc := 85) C dX2_nextOrder_85 rfl ?_
    refine q_ge (pc := 87) C a b 107 rfl rfl (by omega) (by omega) dX2_nextOrder_87 (by decide) (fun c87 => ?_) (fun c87 => ?_)
    · exact v_drop _ (by repeat (first | exact trivial | exact rfl | constructor)) (K g hr ho)
    · exact absurd c87 (by omega)
  | succ m ih =>
    intro a b l g hb hm hr ho hL ha
    unfold rvF at hL
    refine r_iload (pc := 83) C dX2_nextOrder_83 rfl ?_
    refine r_iload (pc := 85) C dX2_nextOrder_85 rfl ?_
    refine q_ge (pc := 87) C a b 107 rfl rfl (by omega) (by omega) dX2_nextOrder_87 (by decide) (fun c87 => ?_) (fun c87 => ?_)
    · rw [if_neg (by omega)] at hL
      subst hL
      exact v_drop _ (by repeat (first | exact trivial | exact rfl | constructor)) (K g hr ho)
    · refine r_aload_n (pc := 90) C dX2_nextOrder_90 rfl ?_
      refine r_iload (pc := 91) C dX2_nextOrder_91 rfl ?_
      refine r_iload (pc := 93) C dX2_nextOrder_93 rfl ?_
      refine q_vVf (pc := 95) C kX2_118 dX2_nextOrder_95 (c_X2_swap (a := a) (b := b) (by omega) (by omega)) (s_27 _) rfl rfl (Nat.le_of_ble_eq_true rfl) (by decide) ⟨by decide, by decide⟩ ?_
      have hr2 := hr.sw (a := a) (b := b) (by omega) hb
      refine r_iinc (pc := 98) C (nI (a + 1)) dX2_nextOrder_98 rfl (nI_inc _) (by decide) rfl ?_
      refine r_iinc (pc := 101) C (nI (b - 1)) dX2_nextOrder_101 rfl (nI_decP b (by omega)) (by decide) rfl ?_
      refine r_goto (pc := 104) C 83 dX2_nextOrder_104 (by decide) ?_
      rw [if_pos c87] at hL
      exact ih (a + 1) (b - 1) _ _ (by omega) (by omega) hr2 (fun k2 hk => by rw [u2_row hk, u2_row hk]; exact ho k2 hk) hL (by omega)
set_option maxRecDepth 100000 in
set_option maxHeartbeats 4000000 in
theorem c_X2_nextOrder {G : GG} {kn : Nat} {f : MM} {n : Nat} {l : List Nat} (hn : n ≤ 6) (hr : rowIs f 45 n l) : RI G mX2_nextOrder 2 kn [.ref (G.1 + 27), .int (nI n)] f (fun v g => (nxtL n l = none ∧ v = 0 ∧ g = f) ∨ ∃ l2, nxtL n l = some l2 ∧ v = 1 ∧ rowIs g 45 n l2 ∧ ∀ k, k ≠ 45 → g k = f k) := by
  refine Ct.of [some (.ref (G.1 + 27)), some (.int (nI n)), none, none, none, none] rfl (by decide +kernel) rfl (Nat.le_of_ble_eq_true rfl) rfl ?_
  intro X C
  by_cases hn0 : n = 0
  · skip
    refine r_iload_n (pc := 0) C dX2_nextOrder_0 rfl ?_
    refine r_iconst (pc := 1) C (2) dX2_nextOrder_1 (by decide) ?_
    refine r_isub (pc := 2) C dX2_nextOrder_2 ?_
    refine q_val (-2) (by rw [hn0]; decide) ?_
    refine r_istore_n (pc := 3) C dX2_nextOrder_3 (by decide) rfl ?_
    refine r_iload_n (pc := 4) C dX2_nextOrder_4 rfl ?_
    refine r_if_lt (pc := 5) C 31 dX2_nextOrder_5 (by decide) (fun c5 => ?_) (fun c5 => ?_)
    · refine r_iload_n (pc := 31) C dX2_nextOrder_31 rfl ?_
      refine r_if_ge (pc := 32) C 37 dX2_nextOrder_32 (by decide) (fun c32 => ?_) (fun c32 => ?_)
      · exact absurd c32 (by decide)
      · refine r_iconst (pc := 35) C (0) dX2_nextOrder_35 (by decide) ?_
        refine q_zret (pc := 36) C dX2_nextOrder_36 rfl (Or.inl rfl) ?_
        exact Or.inl ⟨by rw [hn0]; rfl, rfl, rfl⟩
    · exact absurd (by decide) c5
  · skip
    refine r_iload_n (pc := 0) C dX2_nextOrder_0 rfl ?_
    refine r_iconst (pc := 1) C (2) dX2_nextOrder_1 (by decide) ?_
    refine r_isub (pc := 2) C dX2_nextOrder_2 ?_
    refine q_val (nI (n - 1) - 1) (nI_m2 (by omega)) ?_
    refine r_istore_n (pc := 3) C dX2_nextOrder_3 (by decide) rfl ?_
    refine v_drop _ (by repeat (first | exact trivial | exact rfl | constructor)) (l_nextOrder1 (n := n) (R := kF l (n - 1)) C hn hr (fun hx => ?_) (fun k hx => ?_) (n - 1) (by omega) rfl)
    · skip
      refine r_iload_n (pc := 31) C dX2_nextOrder_31 rfl ?_
      refine r_if_ge (pc := 32) C 37 dX2_nextOrder_32 (by decide) (fun c32 => ?_) (fun c32 => ?_)
      · exact absurd c32 (by decide)
      · refine r_iconst (pc := 35) C (0) dX2_nextOrder_35 (by decide) ?_
        refine q_zret (pc := 36) C dX2_nextOrder_36 rfl (Or.inl rfl) ?_
        exact Or.inl ⟨by rw [nxtL, hx], rfl, rfl⟩
    · have hkl := kF_lt hx
      refine r_iload_n (pc := 31) C dX2_nextOrder_31 rfl ?_
      refine r_if_ge (pc := 32) C 37 dX2_nextOrder_32 (by decide) (fun c32 => ?_) (fun c32 => ?_)
      · refine r_iload_n (pc := 37) C dX2_nextOrder_37 rfl ?_
        refine r_iconst (pc := 38) C (1) dX2_nextOrder_38 (by decide) ?_
        refine r_isub (pc := 39) C dX2_nextOrder_39 ?_
        refine q_is (n - 1) (pk_sub (b := 1) (by omega)) ?_
        refine r_istore_n (pc := 40) C dX2_nextOrder_40 (by decide) rfl ?_
        refine v_drop _ (by repeat (first | exact trivial | exact rfl | constructor)) (l_nextOrder2 (n := n) (k := k) C hn hr hkl.2 (by omega) ?_ (n - 1) (by omega) (by omega) rfl)
        have hjj := jF_in hkl.2 (n - 1) (by omega)
        refine r_aload_n (pc := 67) C dX2_nextOrder_67 rfl ?_
        refine r_iload_n (pc := 68) C dX2_nextOrder_68 rfl ?_
        refine r_iload_n (pc := 69) C dX2_nextOrder_69 rfl ?_
        refine q_vVf (pc := 70) C kX2_118 dX2_nextOrder_70 (c_X2_swap (a := k) (b := jF l k (n - 1)) (by omega) (by omega)) (s_27 _) rfl rfl (Nat.le_of_ble_eq_true rfl) (by decide) ⟨by decide, by decide⟩ ?_
        have hr2 := hr.sw (a := k) (b := jF l k (n - 1)) (by omega) (by omega)
        refine r_iload_n (pc := 73) C dX2_nextOrder_73 rfl ?_
        refine r_iconst (pc := 74) C (1) dX2_nextOrder_74 (by decide) ?_
        refine r_iadd (pc := 75) C dX2_nextOrder_75 ?_
        refine q_is (k + 1) (nI_1 k) ?_
        refine r_istore (pc := 76) C dX2_nextOrder_76 (by decide) rfl ?_
        refine r_iload_n (pc := 78) C dX2_nextOrder_78 rfl ?_
        refine r_iconst (pc := 79) C (1) dX2_nextOrder_79 (by decide) ?_
        refine r_isub (pc := 80) C dX2_nextOrder_80 ?_
        refine q_is (n - 1) (pk_sub (b := 1) (by omega)) ?_
        refine r_istore (pc := 81) C dX2_nextOrder_81 (by decide) rfl ?_
        refine v_drop _ (by repeat (first | exact trivial | exact rfl | constructor)) (l_nextOrder3 (f := f) (n := n) C hn (fun g3 hg3 ho3 => ?_) n (k + 1) (n - 1) _ _ (by omega) (by omega) hr2 (fun k2 hk => by rw [u2_row hk, u2_row hk]) rfl (by omega))
        have hx2 : nxtL n l = some (rvF n (sw l k (jF l k (n - 1))) (k + 1) (n - 1)) := by rw [nxtL, hx]
        refine r_iconst (pc := 107) C (1) dX2_nextOrder_107 (by decide) ?_
        refine q_zret (pc := 108) C dX2_nextOrder_108 rfl (Or.inr rfl) ?_
        exact Or.inr ⟨_, hx2, rfl, hg3, ho3⟩
      · exact absurd (nI_pos' (by omega)) c32
theorem u2_map {F : Nat → (Nat → Int32) → Nat → Int32} {p i j : Nat} {f : MM} {v : Int32} (h : F i (f (p + 2 + i)) = upd (f (p + 2 + i)) j v) : u2 (mapK F p i f) (p + 2 + i) j v = mapK F p (i + 1) f := by
  rw [u2_up, mapK_at, ← h]
  exact mapK_st
def skF (f : MM) (l : List Nat) (w : Nat) (r : Nat → Int32) : Nat → Int32 := upd r 2 (f (8 + l.getD w 0) 2)
theorem upd_ne' {s : Nat → Int32} {k j : Nat} {v : Int32} (h : ¬ j = k) : upd s k v j = s j := if_neg h
theorem goodR.sack {l : Nat} {r : Nat → Int32} {v : Int32} (h : goodR l r) (hv : 0 ≤ v.toInt ∧ v.toInt ≤ 20) : goodR l (upd r 2 v) := by
  unfold goodR
  rw [upd_ne (by decide), upd_ne (by decide), upd_at, upd_ne (by decide), upd_ne (by decide)]
  exact ⟨h.1, h.2.1, hv, h.2.2.2.1, h.2.2.2.2⟩
theorem Pt.sacks {f h : MM} {n g : Nat} {st : Nat → Int32} {l : List Nat} (hn : n ≤ 6) (a : Pt f 6 n (allI n) g st) (b : Pt h 28 n (allI n) g st) (hl : ∀ t, t < n → l.getD t 0 < n) (ha : ∀ w, w < n → f (8 + w) = h (8 + w)) : Pt (mapK (skF h l) 28 n h) 28 n (allI n) g (sackP n st l) := by
  refine ⟨by rw [mapK_lo (by omega)]; exact b.1, by rw [mapK_lo (by omega)]; exact b.2.1, fun w hw j hj => ?_, fun w hw => ?_⟩
  · rw [mapK_in hw]
    unfold skF sackP
    by_cases e : j = 2
    · subst e
      rw [upd_at, if_pos (by omega), show 14 + 6 * 2 + w - 26 = w by omega, ← ha _ (hl w hw)]
      exact a.2.2.1 _ (hl w hw) 2 (by decide)
    · rw [upd_ne e, if_neg (by omega)]
      exact b.2.2.1 w hw j hj
  · rw [mapK_in hw]
    unfold skF
    refine (b.2.2.2 w hw).sack ?_
    rw [← ha _ (hl w hw)]
    exact (a.2.2.2 _ (hl w hw)).2.2.1
set_option maxRecDepth 100000 in
set_option maxHeartbeats 4000000 in
theorem l_findSacks0 {X : XT} {G : GG} {kn : Nat} {Q : State → Prop} {f : MM} {n : Nat} (C : Cx X G mX2_findSacks 6 0 0 (NN kn)) (hn : n ≤ 6) (K : ∀ g : MM, (fun i g => g = fillM f 45 0 i nI) n g → Vw X G mX2_findSacks.2.2.2.1 0 0 Q (NN kn) (shF kn) g 28 [some (.ref (G.1 + 27)), some (.ref (G.1 + 4)), some (.int (nI n)), some (.int (nI n)), none, none] []) : ∀ (m i : Nat) (g : MM), i + m = n → (fun i g => g = fillM f 45 0 i nI) i g → Vw X G mX2_findSacks.2.2.2.1 0 0 Q (NN kn) (shF kn) g 10 [some (.ref (G.1 + 27)), some (.ref (G.1 + 4)), some (.int (nI n)), some (.int (nI i)), none, none] [] := by
  intro m
  induction m with
  | zero =>
    intro i g hm hg
    obtain rfl : n = i := by omega
    subst hg
    refine r_iload_n (pc := 10) C dX2_findSacks_10 rfl ?_
    refine r_iload_n (pc := 11) C dX2_findSacks_11 rfl ?_
    refine q_ge (pc := 12) C n n 28 rfl rfl (by omega) (by omega) dX2_findSacks_12 (by decide) (fun c12 => ?_) (fun c12 => ?_)
    · exact K _ rfl
    · exact absurd c12 (by omega)
  | succ m ih =>
    intro i g hm hg
    subst hg
    refine r_iload_n (pc := 10) C dX2_findSacks_10 rfl ?_
    refine r_iload_n (pc := 11) C dX2_findSacks_11 rfl ?_
    refine q_ge (pc := 12) C i n 28 rfl rfl (by omega) (by omega) dX2_findSacks_12 (by decide) (fun c12 => ?_) (fun c12 => ?_)
    · exact absurd c12 (by omega)
    · refine r_aload_n (pc := 15) C dX2_findSacks_15 rfl ?_
      refine r_getr (pc := 16) C fX2_25 dX2_findSacks_16 (s_27 _) rfl rfl ?_
      refine r_iload_n (pc := 19) C dX2_findSacks_19 rfl ?_
      refine r_iload_n (pc := 20) C dX2_findSacks_20 rfl ?_
      refine q_iast (pc := 21) C i dX2_findSacks_21 (s_45 _) (sn_45 _) rfl (by omega) (by decide) ?_
      refine r_iinc (pc := 22) C (nI (i + 1)) dX2_findSacks_22 rfl (nI_inc _) (by decide) rfl ?_
      refine r_goto (pc := 25) C 10 dX2_findSacks_25 (by decide) ?_
      refine ih (i + 1) _ (by omega) ?_
      exact fillM_step0 rfl
set_option maxRecDepth 100000 in
set_option maxHeartbeats 4000000 in
theorem l_findSacks1 {X : XT} {G : GG} {kn : Nat} {Q : State → Prop} {f : MM} {n od : Nat} {l : List Nat} (C : Cx X G mX2_findSacks 6 0 0 (NN kn)) (hn : n ≤ 6) (hr : rowIs f 45 n l) (K : ∀ g : MM, (fun i g => g = mapK (skF f l) 28 i f) n g → Vw X G mX2_findSacks.2.2.2.1 0 0 Q (NN kn) (shF kn) g 106 [some (.ref (G.1 + 27)), some (.ref (G.1 + 4)), some (.int (nI n)), none, some (.int (nI od)), some (.int (nI n))] []) : ∀ (m i : Nat) (g : MM), i + m = n → (fun i g => g = mapK (skF f l) 28 i f) i g → Vw X G mX2_findSacks.2.2.2.1 0 0 Q (NN kn) (shF kn) g 63 [some (.ref (G.1 + 27)), some (.ref (G.1 + 4)), some (.int (nI n)), none, some (.int (nI od)), some (.int (nI i))] [] := by
  intro m
  induction m with
  | zero =>
    intro i g hm hg
    obtain rfl : n = i := by omega
    subst hg
    refine r_iload (pc := 63) C dX2_findSacks_63 rfl ?_
    refine r_iload_n (pc := 65) C dX2_findSacks_65 rfl ?_
    refine q_ge (pc := 66) C n n 106 rfl rfl (by omega) (by omega) dX2_findSacks_66 (by decide) (fun c66 => ?_) (fun c66 => ?_)
    · exact K _ rfl
    · exact absurd c66 (by omega)
  | succ m ih =>
    intro i g hm hg
    subst hg
    refine r_iload (pc := 63) C dX2_findSacks_63 rfl ?_
    refine r_iload_n (pc := 65) C dX2_findSacks_65 rfl ?_
    refine q_ge (pc := 66) C i n 106 rfl rfl (by omega) (by omega) dX2_findSacks_66 (by decide) (fun c66 => ?_) (fun c66 => ?_)
    · exact absurd c66 (by omega)
    · refine r_aload_n (pc := 69) C dX2_findSacks_69 rfl ?_
      refine r_getr (pc := 70) C fX2_12 dX2_findSacks_70 (s_27 _) rfl rfl ?_
      refine r_getr (pc := 73) C fX2_81 dX2_findSacks_73 (p_0 isP.go) rfl (p_t0 isP.go) ?_
      refine r_iload (pc := 76) C dX2_findSacks_76 rfl ?_
      refine q_aald (pc := 78) C i dX2_findSacks_78 (p_1 isP.go) (by decide) (p_1n isP.go) rfl (by omega) (by decide) (p_1t isP.go (by omega)) ?_
      refine r_aload_n (pc := 79) C dX2_findSacks_79 rfl ?_
      refine r_getr (pc := 80) C fX2_31 dX2_findSacks_80 (w_0 isW.now) rfl (w_t1 isW.now) ?_
      refine r_getr (pc := 83) C fX2_81 dX2_findSacks_83 (p_0 (isP.way isW.now)) rfl (p_t0 (isP.way isW.now)) ?_
      refine r_aload_n (pc := 86) C dX2_findSacks_86 rfl ?_
      refine r_getr (pc := 87) C fX2_25 dX2_findSacks_87 (s_27 _) rfl rfl ?_
      refine r_iload (pc := 90) C dX2_findSacks_90 rfl ?_
      refine q_iald (pc := 92) C i dX2_findSacks_92 (s_45 _) (sn_45 _) rfl (by omega) (by decide) ?_
      have hb := hr.2.1 i (by omega)
      refine q_aald (pc := 93) C (l.getD i 0) dX2_findSacks_93 (p_1 (isP.way isW.now)) (by decide) (p_1n (isP.way isW.now)) (by rw [mapK_hi (by omega)]; exact hr.2.2 i (by omega)) (by omega) (by decide) (p_1t (isP.way isW.now) (by omega)) ?_
      refine r_get (pc := 94) C fX2_100 dX2_findSacks_94 (k_0 (isK.of (isP.way isW.now) (by omega))) rfl ?_
      refine q_val (f (8 + l.getD i 0) 2) (by rw [mapK_lo (by omega)]) ?_
      refine r_put (pc := 97) C fX2_100 ftX6_2 dX2_findSacks_97 (k_0 (isK.of isP.go (by omega))) rfl ?_
      refine r_iinc (pc := 100) C (nI (i + 1)) dX2_findSacks_100 rfl (nI_inc _) (by decide) rfl ?_
      refine r_goto (pc := 103) C 63 dX2_findSacks_103 (by decide) ?_
      refine ih (i + 1) _ (by omega) ?_
      exact u2_map rfl
theorem cpy0 {a b : Nat → Int32} {n : Nat} (h : n < 2147483648) {t : Nat} (ht : t < n) : va_cpy a b (Int32.toNatClampNeg 0) (Int32.toNatClampNeg 0) (nI n).toNatClampNeg t = a t := by
  rw [nI_clamp h]
  unfold va_cpy
  rw [show Int32.toNatClampNeg 0 = 0 by decide, if_pos (by omega)]
  simp
theorem sa_in {f : MM} {n L g : Nat} (N : Now f n L g) {h2 : MM} {l2 : Nat} {l : List Nat} (hl2 : l2 ≤ 16) (hP : Pt h2 28 n (allI n) l2 (hutI n L (allI n) (L - g) g (sackP n (f 89) l))) : 0 ≤ (saV n L g (f 89) l).toInt ∧ (saV n L g (f 89) l).toInt ≤ 40000 := hP.lastok hl2
/-- how the class and the reference stand in the search of the orders -/
def saT (h : MM) (n : Nat) (le : Int32) (bl : List Nat) : Prop := 0 ≤ le.toInt ∧ le.toInt ≤ 40000 ∧ h 27 5 = le ∧ rowIs h 46 n bl
def saR (h : MM) (n : Nat) (le : Int32) (bl : List Nat) : Prop := (le < 0 ∧ h 27 5 = 1000000000) ∨ saT h n le bl
theorem rowIs.ag {g h : MM} {c n : Nat} {l : List Nat} (a : rowIs g c n l) (b : h c = g c) : rowIs h c n l := ⟨a.1, a.2.1, fun t ht => by rw [b]; exact a.2.2 t ht⟩
theorem keepF_ne {f : MM} {v x : Int32} {k : Nat} (h : k ≠ 27) : keepF f v x k = f k := by
  unfold keepF
  split
  · rw [u2_row h, u2_row h]
  · rfl
set_option maxRecDepth 100000 in
set_option maxHeartbeats 4000000 in
theorem l_findSacks {X : XT} {G : GG} {kn : Nat} {Q : State → Prop} {f : MM} {n L g : Nat} {R : Int32 × List Nat} (C : Cx X G mX2_findSacks 6 0 0 (NN kn)) (N : Now f n L g) (K : ∀ (le : Int32) (bl : List Nat) (g2 : MM), agC f g2 → saT g2 n le bl → (le, bl) = R → Vw X G mX2_findSacks.2.2.2.1 0 0 Q (NN kn) (shF kn) g2 154 [some (.ref (G.1 + 27)), none, none, none, none, none] []) : ∀ (m od : Nat) (l : List Nat) (le : Int32) (bl : List Nat) (h : MM), od + m = 720 → ends n m l = true → agC f h → rowIs h 45 n l → saR h n le bl → saI n (saV n L g (f 89)) m l le bl = R → Vw X G mX2_findSacks.2.2.2.1 0 0 Q (NN kn) (shF kn) h 37 [some (.ref (G.1 + 27)), some (.ref (G.1 + 4)), some (.int (nI n)), some (.int 1), some (.int (nI od)), none] [] := by
  intro m
  induction m with
  | zero => intro od l le bl h _ hE; exact absurd hE (by simp [ends])
  | succ m ih =>
    intro od l le bl h hm hE hag hr hs hR
    have he := ends_in hE
    have hn6 := N.hn
    have hNh := N.ag hag
    have e89 : h 89 = f 89 := hag 89 (by omega)
    refine r_iload (pc := 37) C dX2_findSacks_37 rfl ?_
    refine r_sipush (pc := 39) C (720) dX2_findSacks_39 (by decide) ?_
    refine q_ge (pc := 42) C od 720 154 rfl rfl (by omega) (by omega) dX2_findSacks_42 (by decide) (fun c42 => ?_) (fun c42 => ?_)
    · exact absurd c42 (by omega)
    · refine r_iload_n (pc := 45) C dX2_findSacks_45 rfl ?_
      refine r_if_eq (pc := 46) C 154 dX2_findSacks_46 (by decide) (fun c46 => ?_) (fun c46 => ?_)
      · exact absurd c46 (by decide)
      · refine r_aload_n (pc := 49) C dX2_findSacks_49 rfl ?_
        refine r_getr (pc := 50) C fX2_12 dX2_findSacks_50 (s_27 _) rfl rfl ?_
        refine r_aload_n (pc := 53) C dX2_findSacks_53 rfl ?_
        refine r_getr (pc := 54) C fX2_31 dX2_findSacks_54 (w_0 isW.now) rfl (w_t1 isW.now) ?_
        refine q_vVf (pc := 57) C kX2_34 dX2_findSacks_57 (c_X3_become (n := n) isP.go (isP.way isW.now) (by omega) hn6 hNh.pt.1) (p_0 isP.go) rfl rfl (Nat.le_of_ble_eq_true rfl) (by decide) ⟨by decide, by decide⟩ ?_
        refine r_iconst (pc := 60) C (0) dX2_findSacks_60 (by decide) ?_
        refine r_istore (pc := 61) C dX2_findSacks_61 (by decide) rfl ?_
        refine v_drop _ (by repeat (first | exact trivial | exact rfl | constructor)) (l_findSacks1 (f := C_pbec h 28 6 n) (n := n) (l := l) C hn6 (hr.ag (C_pbec_p (by decide) (by omega))) (fun g3 hg3 => ?_) n 0 _ (by omega) mapK_0.symm)
        subst hg3
        have hPs : Pt (mapK (skF (C_pbec h 28 6 n) l) 28 n (C_pbec h 28 6 n)) 28 n (allI n) g (sackP n (f 89) l) := by
          have q := hNh.pt
          rw [e89] at q
          exact Pt.sacks (f := h) hn6 q q.pbec he.2.1 (fun w hw => (C_pbec_p (by omega) (by omega)).symm)
        have hWs : Wy (mapK (skF (C_pbec h 28 6 n) l) 28 n (C_pbec h 28 6 n)) L (sackP n (f 89) l) := by
          have q := hNh.wy
          rw [e89] at q
          refine (q.ag (fun k hk => ?_)).st (fun j hj => if_neg (by have := N.hL; omega))
          rw [show (mapK (skF (C_pbec h 28 6 n) l) 28 n (C_pbec h 28 6 n)) k = (C_pbec h 28 6 n) k by rcases hk with q | q <;> first | exact mapK_lo (by omega) | exact mapK_hi (by omega), C_pbec_p (by omega) (by omega)]
        refine r_aload_n (pc := 106) C dX2_findSacks_106 rfl ?_
        refine r_aload_n (pc := 107) C dX2_findSacks_107 rfl ?_
        refine r_aload_n (pc := 108) C dX2_findSacks_108 rfl ?_
        refine r_aload_n (pc := 109) C dX2_findSacks_109 rfl ?_
        refine r_get (pc := 110) C fX2_103 dX2_findSacks_110 (w_0 isW.now) rfl ?_
        refine q_val (f 89 10) (by rw [mapK_lo (by omega), C_pbec_p (by decide) (by omega), hag 4 (by omega)]; exact N.ru) ?_
        refine r_aload_n (pc := 113) C dX2_findSacks_113 rfl ?_
        refine r_get (pc := 114) C fX2_106 dX2_findSacks_114 (w_0 isW.now) rfl ?_
        refine q_val (f 89 11) (by rw [mapK_lo (by omega), C_pbec_p (by decide) (by omega), hag 4 (by omega)]; exact N.mi) ?_
        refine q_vI (pc := 117) C kX2_38 dX2_findSacks_117 (c_X2_walkOn (n := n) (L := L) (g := g) (l := g) (s := allI n) (st := sackP n (f 89) l) N.hn N.hL N.hg (by have := N.hL; have := N.hg; omega) hPs hWs (by rw [mapK_lo (by omega), C_pbec_p (by decide) (by omega), hag 4 (by omega)]; exact N.gt) (if_neg (by omega)) (if_neg (by omega)) N.mb) (s_27 _) rfl rfl (Nat.le_of_ble_eq_true rfl) (by decide) ⟨by decide, by decide⟩ ?_
        intro v117 f117 h117
        obtain ⟨hv117, ⟨l2, hl2, hP2⟩, ha2⟩ := h117
        refine q_val (saV n L g (f 89) l) hv117 ?_
        have hb := sa_in N hl2 hP2
        have z0 : (0 : Int32).toInt = 0 := by decide
        have z9 : (1000000000 : Int32).toInt = 1000000000 := by decide
        have e27 : f117 27 = h 27 := by rw [ha2 27 (by omega), mapK_lo (by omega), C_pbec_p (by decide) (by omega)]
        have e45 : f117 45 = h 45 := by rw [ha2 45 (by omega), mapK_hi (by omega), C_pbec_p (by decide) (by omega)]
        have e46 : f117 46 = h 46 := by rw [ha2 46 (by omega), mapK_hi (by omega), C_pbec_p (by decide) (by omega)]
        have hag4 : agC f f117 := fun k hk => by rw [ha2 k (by omega), show mapK (skF (C_pbec h 28 6 n) l) 28 n (C_pbec h 28 6 n) k = C_pbec h 28 6 n k by rcases hk with q | q <;> first | exact mapK_lo (by omega) | exact mapK_hi (by omega), C_pbec_p (by omega) (by omega)]; exact hag k hk
        refine r_iload (pc := 120) C dX2_findSacks_120 rfl ?_
        refine q_vIf (pc := 122) C kX2_74 dX2_findSacks_122 (c_X2_keepIfLess) (s_27 _) rfl rfl (Nat.le_of_ble_eq_true rfl) (by decide) ⟨by decide, by decide⟩ ?_
        refine r_if_eq (pc := 125) C 142 dX2_findSacks_125 (by decide) (fun c125 => ?_) (fun c125 => ?_)
        · replace c125 := b1_0 c125
          replace c125 := of_decide_eq_false c125
          have ek : keepF f117 (saV n L g (f 89) l) (nI od) = f117 := by unfold keepF; rw [if_neg c125]
          refine q_f (f' := f117) ek ?_
          rw [e27] at c125
          have hsel : ¬ le < 0 ∧ le ≤ saV n L g (f 89) l := by
            rcases hs with q | q
            · rw [q.2] at c125
              exact absurd (ti_lt.mpr (by omega)) c125
            · rw [q.2.2.1] at c125
              have q1 := q.1
              exact ⟨by rw [ti_lt]; omega, Int32.not_lt.mp c125⟩
          have hag5 := hag4
          have hr5 : rowIs f117 45 n l := hr.ag e45
          have hs5 : saT f117 n le bl := by
            rcases hs with q | q
            · exact absurd q.1 hsel.1
            · exact ⟨q.1, q.2.1, by rw [e27]; exact q.2.2.1, q.2.2.2.ag e46⟩
          refine v_drop [some (.ref (G.1 + 27)), some (.ref (G.1 + 4)), some (.int (nI n)), none, some (.int (nI od)), none] (by repeat (first | exact trivial | exact rfl | constructor)) ?_
          refine r_aload_n (pc := 142) C dX2_findSacks_142 rfl ?_
          refine r_iload_n (pc := 143) C dX2_findSacks_143 rfl ?_
          refine q_vI (pc := 144) C kX2_115 dX2_findSacks_144 (c_X2_nextOrder (n := n) (l := l) N.hn hr5) (s_27 _) rfl rfl (Nat.le_of_ble_eq_true rfl) (by decide) ⟨by decide, by decide⟩ ?_
          intro v144 f144 h144
          rcases h144 with ⟨hx, rfl, rfl⟩ | ⟨l2, hx, rfl, hr6, ho6⟩
          · skip
            have hs6 := hs5
            have hag6 := hag5
            refine r_istore_n (pc := 147) C dX2_findSacks_147 (by decide) rfl ?_
            refine r_iinc (pc := 148) C (nI (od + 1)) dX2_findSacks_148 rfl (nI_inc _) (by decide) rfl ?_
            refine r_goto (pc := 151) C 37 dX2_findSacks_151 (by decide) ?_
            refine r_iload (pc := 37) C dX2_findSacks_37 rfl ?_
            refine r_sipush (pc := 39) C (720) dX2_findSacks_39 (by decide) ?_
            refine q_ge (pc := 42) C (od + 1) 720 154 rfl rfl (by omega) (by omega) dX2_findSacks_42 (by decide) (fun c42 => ?_) (fun c42 => ?_)
            · exact v_drop _ (by repeat (first | exact trivial | exact rfl | constructor)) (K le bl _ hag6 hs6 (by rw [← hR, saI, hx]; simp [hsel]))
            · refine r_iload_n (pc := 45) C dX2_findSacks_45 rfl ?_
              refine r_if_eq (pc := 46) C 154 dX2_findSacks_46 (by decide) (fun c46 => ?_) (fun c46 => ?_)
              · exact v_drop _ (by repeat (first | exact trivial | exact rfl | constructor)) (K le bl _ hag6 hs6 (by rw [← hR, saI, hx]; simp [hsel]))
              · exact absurd rfl c46
          · skip
            have hag6 : agC f f144 := fun k hk => (ho6 k (by omega)).trans (hag5 k hk)
            have hs6 : saT f144 n le bl := ⟨hs5.1, hs5.2.1, by rw [ho6 27 (by decide)]; exact hs5.2.2.1, hs5.2.2.2.ag (ho6 46 (by decide))⟩
            refine r_istore_n (pc := 147) C dX2_findSacks_147 (by decide) rfl ?_
            refine r_iinc (pc := 148) C (nI (od + 1)) dX2_findSacks_148 rfl (nI_inc _) (by decide) rfl ?_
            refine r_goto (pc := 151) C 37 dX2_findSacks_151 (by decide) ?_
            exact v_drop _ (by repeat (first | exact trivial | exact rfl | constructor)) (ih (od + 1) l2 le bl _ (by omega) (he.2.2 l2 hx) hag6 hr6 (Or.inr hs6) (by rw [← hR, saI, hx]; simp [hsel]))
        · replace c125 := b1_1 c125
          replace c125 := of_decide_eq_true c125
          refine r_aload_n (pc := 128) C dX2_findSacks_128 rfl ?_
          refine r_getr (pc := 129) C fX2_25 dX2_findSacks_129 (s_27 _) rfl rfl ?_
          refine r_iconst (pc := 132) C (0) dX2_findSacks_132 (by decide) ?_
          refine r_aload_n (pc := 133) C dX2_findSacks_133 rfl ?_
          refine r_getr (pc := 134) C fX2_28 dX2_findSacks_134 (s_27 _) rfl rfl ?_
          refine r_iconst (pc := 137) C (0) dX2_findSacks_137 (by decide) ?_
          refine r_iload_n (pc := 138) C dX2_findSacks_138 rfl ?_
          refine r_copyi (pc := 139) C kcX2_109 dX2_findSacks_139 (s_45 _) (sn_45 _) (s_46 _) (sn_46 _) (by decide) (by decide) (Int32.not_lt.mpr (nI_pos' (by omega))) (by rw [nI_clamp (by omega), show Int32.toNatClampNeg 0 = 0 by decide]; omega) (by rw [nI_clamp (by omega), show Int32.toNatClampNeg 0 = 0 by decide]; omega) ⟨rfl, rfl⟩ (by decide) (Nat.le_of_ble_eq_true rfl) ?_
          have hag5 : agC f (va_up (keepF f117 (saV n L g (f 89) l) (nI od)) 46 (va_cpy (keepF f117 (saV n L g (f 89) l) (nI od) 45) (keepF f117 (saV n L g (f 89) l) (nI od) 46) (Int32.toNatClampNeg 0) (Int32.toNatClampNeg 0) (nI n).toNatClampNeg)) := fun k hk => by rw [up_ne (by omega), keepF_ne (by omega)]; exact hag4 k hk
          have hr5 : rowIs (va_up (keepF f117 (saV n L g (f 89) l) (nI od)) 46 (va_cpy (keepF f117 (saV n L g (f 89) l) (nI od) 45) (keepF f117 (saV n L g (f 89) l) (nI od) 46) (Int32.toNatClampNeg 0) (Int32.toNatClampNeg 0) (nI n).toNatClampNeg)) 45 n l := (hr.ag e45).ag (by rw [up_ne (by decide), keepF_ne (by decide)])
          have hs5 : saT (va_up (keepF f117 (saV n L g (f 89) l) (nI od)) 46 (va_cpy (keepF f117 (saV n L g (f 89) l) (nI od) 45) (keepF f117 (saV n L g (f 89) l) (nI od) 46) (Int32.toNatClampNeg 0) (Int32.toNatClampNeg 0) (nI n).toNatClampNeg)) n (saV n L g (f 89) l) l := by
            refine ⟨hb.1, hb.2, ?_, hr.1, hr.2.1, fun t ht => ?_⟩
            · rw [up_ne (by decide), keepF, if_pos c125]; simp [u2]
            · rw [up_at, cpy0 (by omega) ht, keepF_ne (by decide), e45]; exact hr.2.2 t ht
          have hsel : le < 0 ∨ ¬ le ≤ saV n L g (f 89) l := by
            rw [e27] at c125
            rcases hs with q | q
            · exact Or.inl q.1
            · refine Or.inr ?_
              rw [q.2.2.1] at c125
              exact Int32.not_le.mpr c125
          refine v_drop [some (.ref (G.1 + 27)), some (.ref (G.1 + 4)), some (.int (nI n)), none, some (.int (nI od)), none] (by repeat (first | exact trivial | exact rfl | constructor)) ?_
          refine r_aload_n (pc := 142) C dX2_findSacks_142 rfl ?_
          refine r_iload_n (pc := 143) C dX2_findSacks_143 rfl ?_
          refine q_vI (pc := 144) C kX2_115 dX2_findSacks_144 (c_X2_nextOrder (n := n) (l := l) N.hn hr5) (s_27 _) rfl rfl (Nat.le_of_ble_eq_true rfl) (by decide) ⟨by decide, by decide⟩ ?_
          intro v144 f144 h144
          rcases h144 with ⟨hx, rfl, rfl⟩ | ⟨l2, hx, rfl, hr6, ho6⟩
          · skip
            have hs6 := hs5
            have hag6 := hag5
            refine r_istore_n (pc := 147) C dX2_findSacks_147 (by decide) rfl ?_
            refine r_iinc (pc := 148) C (nI (od + 1)) dX2_findSacks_148 rfl (nI_inc _) (by decide) rfl ?_
            refine r_goto (pc := 151) C 37 dX2_findSacks_151 (by decide) ?_
            refine r_iload (pc := 37) C dX2_findSacks_37 rfl ?_
            refine r_sipush (pc := 39) C (720) dX2_findSacks_39 (by decide) ?_
            refine q_ge (pc := 42) C (od + 1) 720 154 rfl rfl (by omega) (by omega) dX2_findSacks_42 (by decide) (fun c42 => ?_) (fun c42 => ?_)
            · exact v_drop _ (by repeat (first | exact trivial | exact rfl | constructor)) (K (saV n L g (f 89) l) l _ hag6 hs6 (by rw [← hR, saI, hx]; rcases hsel with q | q <;> simp [q]))
            · refine r_iload_n (pc := 45) C dX2_findSacks_45 rfl ?_
              refine r_if_eq (pc := 46) C 154 dX2_findSacks_46 (by decide) (fun c46 => ?_) (fun c46 => ?_)
              · exact v_drop _ (by repeat (first | exact trivial | exact rfl | constructor)) (K (saV n L g (f 89) l) l _ hag6 hs6 (by rw [← hR, saI, hx]; rcases hsel with q | q <;> simp [q]))
              · exact absurd rfl c46
          · skip
            have hag6 : agC f f144 := fun k hk => (ho6 k (by omega)).trans (hag5 k hk)
            have hs6 : saT f144 n ((saV n L g (f 89) l)) l := ⟨hs5.1, hs5.2.1, by rw [ho6 27 (by decide)]; exact hs5.2.2.1, hs5.2.2.2.ag (ho6 46 (by decide))⟩
            refine r_istore_n (pc := 147) C dX2_findSacks_147 (by decide) rfl ?_
            refine r_iinc (pc := 148) C (nI (od + 1)) dX2_findSacks_148 rfl (nI_inc _) (by decide) rfl ?_
            refine r_goto (pc := 151) C 37 dX2_findSacks_151 (by decide) ?_
            exact v_drop _ (by repeat (first | exact trivial | exact rfl | constructor)) (ih (od + 1) l2 (saV n L g (f 89) l) l _ (by omega) (he.2.2 l2 hx) hag6 hr6 (Or.inr hs6) (by rw [← hR, saI, hx]; rcases hsel with q | q <;> simp [q]))
set_option maxRecDepth 100000 in
set_option maxHeartbeats 4000000 in
theorem c_X2_findSacks {G : GG} {kn : Nat} {f : MM} {n L g : Nat} (N : Now f n L g) : RV G mX2_findSacks 6 kn [.ref (G.1 + 27), .ref (G.1 + 4)] f (fun g2 => agC f g2 ∧ ∃ le bl, saI n (saV n L g (f 89)) 720 (List.range n) (-1) [] = (le, bl) ∧ g2 27 5 = le ∧ rowIs g2 46 n bl) := by
  refine Ct.of [some (.ref (G.1 + 27)), some (.ref (G.1 + 4)), none, none, none, none] rfl (by decide +kernel) rfl (Nat.le_of_ble_eq_true rfl) rfl ?_
  intro X C
  have hn6 := N.hn
  refine r_aload_n (pc := 0) C dX2_findSacks_0 rfl ?_
  refine r_getr (pc := 1) C fX2_31 dX2_findSacks_1 (w_0 isW.now) rfl (w_t1 isW.now) ?_
  refine r_get (pc := 4) C fX2_78 dX2_findSacks_4 (p_0 (isP.way isW.now)) rfl ?_
  refine q_is (n) N.pt.1 ?_
  refine r_istore_n (pc := 7) C dX2_findSacks_7 (by decide) rfl ?_
  refine r_iconst (pc := 8) C (0) dX2_findSacks_8 (by decide) ?_
  refine r_istore_n (pc := 9) C dX2_findSacks_9 (by decide) rfl ?_
  refine v_drop _ (by repeat (first | exact trivial | exact rfl | constructor)) (l_findSacks0 (f := f) (n := n) C hn6 (fun g1 hg1 => ?_) n 0 _ (by omega) fillM_0.symm)
  subst hg1
  refine r_aload_n (pc := 28) C dX2_findSacks_28 rfl ?_
  refine q_vVf (pc := 29) C kX2_64 dX2_findSacks_29 (c_X2_startSearch) (s_27 _) rfl rfl (Nat.le_of_ble_eq_true rfl) (by decide) ⟨by decide, by decide⟩ ?_
  refine r_iconst (pc := 32) C (1) dX2_findSacks_32 (by decide) ?_
  refine r_istore_n (pc := 33) C dX2_findSacks_33 (by decide) rfl ?_
  refine r_iconst (pc := 34) C (0) dX2_findSacks_34 (by decide) ?_
  refine r_istore (pc := 35) C dX2_findSacks_35 (by decide) rfl ?_
  refine v_drop _ (by repeat (first | exact trivial | exact rfl | constructor)) (l_findSacks (f := f) (n := n) (L := L) (g := g) C N (fun le bl g2 hag hs hR => ?_) 720 0 (List.range n) (-1) [] _ (Nat.zero_add _) (ends_ok n hn6) (fun k hk => by rw [u2_row (by omega), u2_row (by omega), fillM_row (by omega)]) ⟨by simp, fun t ht => by simp [ht]; omega, fun t ht => by rw [u2_row (by decide), u2_row (by decide), fillM_in (by omega) (by omega)]; simp [ht]⟩ (Or.inl ⟨by decide, by simp [u2]⟩) rfl)
  refine q_vret (pc := 154) C dX2_findSacks_154 rfl ?_
  exact ⟨hag, le, bl, hR.symm, hs.2.2.1, hs.2.2.2⟩
