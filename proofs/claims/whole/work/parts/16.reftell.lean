/-! THE REFERENCE: what is foretold -/
/-- nothing has changed but what the reference works with -/
def agF (f g : MM) : Prop := ∀ k b, ¬ (k = 85 ∧ b = 16) → ¬ (94 ≤ k ∧ k ≤ 98) → g k b = f k b
theorem agF.rf {f : MM} : agF f f := fun _ _ _ _ => rfl
theorem agF.tr {f g h : MM} (h1 : agF f g) (h2 : agF g h) : agF f h := fun k b a c => (h2 k b a c).trans (h1 k b a c)
theorem agF.row {f g : MM} (h : agF f g) {k : Nat} (h1 : k ≠ 85) (h2 : ¬ (94 ≤ k ∧ k ≤ 98)) : g k = f k := by
  funext b
  exact h k b (fun q => h1 q.1) h2
theorem agF.st {f g : MM} (h : agF f g) : g 89 = f 89 := h.row (by decide) (by decide)
theorem agF.put {f g : MM} (h : agF f g) {k b : Nat} {v : Int32} (hk : 94 ≤ k ∧ k ≤ 98) : agF f (u2 g k b v) := fun a c h1 h2 => by
  rw [← h a c h1 h2]
  simp only [u2]
  rw [if_neg (fun q => h2 (by omega))]
/-- the way taken back -/
theorem agF.back {f m : MM} (h94 : ∀ t, t < 56 → m 94 t = f 89 t) (hhi : ∀ t, 56 ≤ t → m 89 t = f 89 t) (ho : ∀ k b, k ≠ 89 → ¬ (k = 85 ∧ b = 16) → ¬ (94 ≤ k ∧ k ≤ 98) → m k b = f k b) : agF f (fillM m 89 0 56 (m 94)) := by
  intro k b h1 h2
  by_cases hk : k = 89
  · subst hk
    by_cases hb : b < 56
    · rw [fillM_in (by omega) (by omega)]
      exact h94 b hb
    · rw [fillM_out (by omega)]
      exact hhi b (by omega)
  · rw [fillM_ne hk]
    exact ho k b hk h1 h2
def hutV (n L g : Nat) (st : Nat → Int32) (r m : Int32) : Nat → Int32 := hutI n L (allI n) (L - g) g (upd (upd st 10 r) 11 m)
def tryV (n L g : Nat) (st : Nat → Int32) (r m : Int32) : Int32 := lastI (hutV n L g st r m) (allI n) n
theorem upd_ne {s : Nat → Int32} {k j : Nat} {v : Int32} (h : j ≠ k) : upd s k v j = s j := if_neg h
def tryM (f : MM) (r m : Int32) : MM := u2 (u2 (fillM f 94 0 56 (f 89)) 89 10 r) 89 11 m
theorem tryM_89 {f : MM} {r m : Int32} : tryM f r m 89 = upd (upd (f 89) 10 r) 11 m := by
  unfold tryM
  rw [u2_self, u2_self, fillM_row (by decide)]
theorem tryM_94 {f : MM} {r m : Int32} {t : Nat} (h : t < 56) : tryM f r m 94 t = f 89 t := by
  unfold tryM
  rw [u2_row (by decide), u2_row (by decide), fillM_in (by omega) (by omega)]
  rfl
theorem tryM_ne {f : MM} {r m : Int32} {k b : Nat} (h : k ≠ 89) (h2 : k ≠ 94) : tryM f r m k b = f k b := by
  unfold tryM
  rw [u2_row h, u2_row h, fillM_ne h2]
set_option maxRecDepth 100000 in
set_option maxHeartbeats 4000000 in
theorem c_X9_tryAll {G : GG} {kn : Nat} {f : MM} {n L g : Nat} (hn : n ≤ 6) (hL : L ≤ 8) (hg : g ≤ L) (h13 : f 89 13 = nI n) (h8 : f 89 8 = nI L) (h9 : f 89 9 = nI g) {a b : Int32} : RI G mX9_tryAll 6 kn [.ref (G.1 + 85), .int a, .int b] f (fun v g2 => v = tryV n L g (f 89) a b ∧ agF f g2) := by
  refine Ct.of [some (.ref (G.1 + 85)), some (.int a), some (.int b), none] rfl (by decide +kernel) rfl (Nat.le_of_ble_eq_true rfl) rfl ?_
  intro X C
  refine r_aload_n (pc := 0) C dX9_tryAll_0 rfl ?_
  refine q_vVf (pc := 1) C kX9_203 dX9_tryAll_1 (c_X9_putAside) (s_85 _) rfl rfl (Nat.le_of_ble_eq_true rfl) (by decide) ⟨by decide, by decide⟩ ?_
  refine r_aload_n (pc := 4) C dX9_tryAll_4 rfl ?_
  refine r_getr (pc := 5) C fX9_19 dX9_tryAll_5 (s_85 _) rfl rfl ?_
  refine r_bipush (pc := 8) C (10) dX9_tryAll_8 (by decide) ?_
  refine r_iload_n (pc := 10) C dX9_tryAll_10 rfl ?_
  refine q_iast (pc := 11) C 10 dX9_tryAll_11 (s_89 _) (sn_89 _) rfl (by omega) (by decide) ?_
  refine r_aload_n (pc := 12) C dX9_tryAll_12 rfl ?_
  refine r_getr (pc := 13) C fX9_19 dX9_tryAll_13 (s_85 _) rfl rfl ?_
  refine r_bipush (pc := 16) C (11) dX9_tryAll_16 (by decide) ?_
  refine r_iload_n (pc := 18) C dX9_tryAll_18 rfl ?_
  refine q_iast (pc := 19) C 11 dX9_tryAll_19 (s_89 _) (sn_89 _) rfl (by omega) (by decide) ?_
  refine q_f (f' := tryM f a b) rfl ?_
  refine r_aload_n (pc := 20) C dX9_tryAll_20 rfl ?_
  refine r_aload_n (pc := 21) C dX9_tryAll_21 rfl ?_
  refine q_vIf (pc := 22) C kX9_187 dX9_tryAll_22 (c_X9_all (n := n) (by rw [tryM_89, upd_ne (by decide), upd_ne (by decide)]; exact h13)) (s_85 _) rfl rfl (Nat.le_of_ble_eq_true rfl) (by decide) ⟨by decide, by decide⟩ ?_
  refine q_vIf (pc := 25) C kX9_206 dX9_tryAll_25 (c_X9_toHut (n := n) (L := L) (g := g) hn hL hg (by rw [tryM_89, upd_ne (by decide), upd_ne (by decide)]; exact h13) (by rw [tryM_89, upd_ne (by decide), upd_ne (by decide)]; exact h8) (by rw [tryM_89, upd_ne (by decide), upd_ne (by decide)]; exact h9)) (s_85 _) rfl rfl (Nat.le_of_ble_eq_true rfl) (by decide) ⟨by decide, by decide⟩ ?_
  refine r_istore_n (pc := 28) C dX9_tryAll_28 (by decide) rfl ?_
  refine r_aload_n (pc := 29) C dX9_tryAll_29 rfl ?_
  refine q_vVf (pc := 30) C kX9_209 dX9_tryAll_30 (c_X9_takeBack) (s_85 _) rfl rfl (Nat.le_of_ble_eq_true rfl) (by decide) ⟨by decide, by decide⟩ ?_
  refine r_iload_n (pc := 33) C dX9_tryAll_33 rfl ?_
  refine q_iret (pc := 34) C dX9_tryAll_34 rfl ?_
  refine ⟨by rw [tryM_89]; rfl, ?_⟩
  refine agF.back (fun t ht => ?_) (fun t ht => ?_) (fun k b k1 k2 k3 => ?_)
  · rw [up_ne (by decide), u2_row (by decide), tryM_94 ht]
  · rw [up_at, hutI_hi (by omega) hn, tryM_89, upd_ne (by omega), upd_ne (by omega)]
  · rw [up_ne k1]
    simp only [u2]
    rw [if_neg k2, tryM_ne k1 (by omega)]
def thM (f : MM) : MM := fillM f 94 0 56 (f 89)
theorem thM_89 {f : MM} : thM f 89 = f 89 := fillM_row (by decide)
def R_there (f : MM) (n L g : Nat) (w q : Int32) : Int32 := if inR w n = true then if inR q 3 = true then (fun s => if q = 0 then s (38 + tn w) else if q = 1 then s (44 + tn w) else s (32 + tn w)) (hutI n L (allI n) (L - g) g (f 89)) else -1000001 else -1000001
set_option maxRecDepth 100000 in
set_option maxHeartbeats 4000000 in
theorem c_X9_there {G : GG} {kn : Nat} {f : MM} {n L g : Nat} (hn : n ≤ 6) (hL : L ≤ 8) (hg : g ≤ L) (h13 : f 89 13 = nI n) (h8 : f 89 8 = nI L) (h9 : f 89 9 = nI g) {a b : Int32} : RI G mX9_there 6 kn [.ref (G.1 + 85), .int a, .int b] f (fun v g2 => v = R_there f n L g a b ∧ agF f g2) := by
  refine Ct.of [some (.ref (G.1 + 85)), some (.int a), some (.int b), none] rfl (by decide +kernel) rfl (Nat.le_of_ble_eq_true rfl) rfl ?_
  intro X C
  refine r_aload_n (pc := 0) C dX9_there_0 rfl ?_
  refine r_iload_n (pc := 1) C dX9_there_1 rfl ?_
  refine q_vIf (pc := 2) C kX9_197 dX9_there_2 (c_X9_isWalker hn h13) (s_85 _) rfl rfl (Nat.le_of_ble_eq_true rfl) (by decide) ⟨by decide, by decide⟩ ?_
  refine r_if_eq (pc := 5) C 20 dX9_there_5 (by decide) (fun c5 => ?_) (fun c5 => ?_)
  · replace c5 := b1_0 c5
    refine r_ldc (pc := 20) C (-1000001) kX9_76 dX9_there_20 ?_
    refine q_iret (pc := 22) C dX9_there_22 rfl ?_
    exact ⟨by simp [R_there, c5], agF.rf⟩
  · replace c5 := b1_1 c5
    obtain ⟨i, hi, rfl⟩ := inR_of c5
    have ti : tn (nI i) = i := tn_nI (by omega)
    refine r_iload_n (pc := 8) C dX9_there_8 rfl ?_
    refine r_i2l (pc := 9) C dX9_there_9 ?_
    refine r_lconst (pc := 10) C (0) dX9_there_10 (by decide) ?_
    refine r_ldc2 (pc := 11) C (2) kX9_74 dX9_there_11 ?_
    refine q_sIf (pc := 14) C kX9_66 dX9_there_14 (c_in0 (hi := 2) 3 rfl (by decide) (by decide)) rfl rfl (Nat.le_of_ble_eq_true rfl) (by decide) ⟨by decide, by decide⟩ ?_
    refine r_if_ne (pc := 17) C 23 dX9_there_17 (by decide) (fun c17 => ?_) (fun c17 => ?_)
    · replace c17 := b1_1 c17
      refine r_aload_n (pc := 23) C dX9_there_23 rfl ?_
      refine q_vVf (pc := 24) C kX9_203 dX9_there_24 (c_X9_putAside) (s_85 _) rfl rfl (Nat.le_of_ble_eq_true rfl) (by decide) ⟨by decide, by decide⟩ ?_
      refine q_f (f' := thM f) rfl ?_
      refine r_aload_n (pc := 27) C dX9_there_27 rfl ?_
      refine r_aload_n (pc := 28) C dX9_there_28 rfl ?_
      refine q_vIf (pc := 29) C kX9_187 dX9_there_29 (c_X9_all (n := n) (by rw [thM_89]; exact h13)) (s_85 _) rfl rfl (Nat.le_of_ble_eq_true rfl) (by decide) ⟨by decide, by decide⟩ ?_
      refine q_vIf (pc := 32) C kX9_206 dX9_there_32 (c_X9_toHut (n := n) (L := L) (g := g) hn hL hg (by rw [thM_89]; exact h13) (by rw [thM_89]; exact h8) (by rw [thM_89]; exact h9)) (s_85 _) rfl rfl (Nat.le_of_ble_eq_true rfl) (by decide) ⟨by decide, by decide⟩ ?_
      refine r_pop (pc := 35) C dX9_there_35 rfl ?_
      refine r_iload_n (pc := 36) C dX9_there_36 rfl ?_
      refine r_if_ne (pc := 37) C 52 dX9_there_37 (by decide) (fun c37 => ?_) (fun c37 => ?_)
      · refine r_iload_n (pc := 52) C dX9_there_52 rfl ?_
        refine r_iconst (pc := 53) C (1) dX9_there_53 (by decide) ?_
        refine r_icmp_ne (pc := 54) C 69 dX9_there_54 (by decide) (fun c54 => ?_) (fun c54 => ?_)
        · refine r_aload_n (pc := 69) C dX9_there_69 rfl ?_
          refine r_getr (pc := 70) C fX9_19 dX9_there_70 (s_85 _) rfl rfl ?_
          refine r_bipush (pc := 73) C (32) dX9_there_73 (by decide) ?_
          refine r_iload_n (pc := 75) C dX9_there_75 rfl ?_
          refine r_iadd (pc := 76) C dX9_there_76 ?_
          refine q_iald (pc := 77) C (32 + i) dX9_there_77 (s_89 _) (sn_89 _) (nI_add 32 i) (by omega) (by decide) ?_
          refine r_istore_n (pc := 78) C dX9_there_78 (by decide) rfl ?_
          refine r_aload_n (pc := 79) C dX9_there_79 rfl ?_
          refine q_vVf (pc := 80) C kX9_209 dX9_there_80 (c_X9_takeBack) (s_85 _) rfl rfl (Nat.le_of_ble_eq_true rfl) (by decide) ⟨by decide, by decide⟩ ?_
          refine r_iload_n (pc := 83) C dX9_there_83 rfl ?_
          refine q_iret (pc := 84) C dX9_there_84 rfl ?_
          refine ⟨?_, ?_⟩
          · rw [up_at, thM_89]; simp [R_there, c5, ti, c17, c37, c54]; rfl
          · skip
            refine agF.back (fun t ht => ?_) (fun t ht => ?_) (fun k b k1 k2 k3 => ?_)
            · rw [up_ne (by decide), u2_row (by decide)]; exact fillM_in (by omega) (by omega)
            · rw [up_at, hutI_hi (by omega) hn, thM_89]
            · rw [up_ne k1]
              simp only [u2]
              rw [if_neg k2]
              exact fillM_ne (by omega)
        · refine r_aload_n (pc := 57) C dX9_there_57 rfl ?_
          refine r_getr (pc := 58) C fX9_19 dX9_there_58 (s_85 _) rfl rfl ?_
          refine r_bipush (pc := 61) C (44) dX9_there_61 (by decide) ?_
          refine r_iload_n (pc := 63) C dX9_there_63 rfl ?_
          refine r_iadd (pc := 64) C dX9_there_64 ?_
          refine q_iald (pc := 65) C (44 + i) dX9_there_65 (s_89 _) (sn_89 _) (nI_add 44 i) (by omega) (by decide) ?_
          refine r_goto (pc := 66) C 78 dX9_there_66 (by decide) ?_
          refine r_istore_n (pc := 78) C dX9_there_78 (by decide) rfl ?_
          refine r_aload_n (pc := 79) C dX9_there_79 rfl ?_
          refine q_vVf (pc := 80) C kX9_209 dX9_there_80 (c_X9_takeBack) (s_85 _) rfl rfl (Nat.le_of_ble_eq_true rfl) (by decide) ⟨by decide, by decide⟩ ?_
          refine r_iload_n (pc := 83) C dX9_there_83 rfl ?_
          refine q_iret (pc := 84) C dX9_there_84 rfl ?_
          refine ⟨?_, ?_⟩
          · rw [up_at, thM_89]; simp [R_there, c5, ti, c17, c37, c54]; rfl
          · skip
            refine agF.back (fun t ht => ?_) (fun t ht => ?_) (fun k b k1 k2 k3 => ?_)
            · rw [up_ne (by decide), u2_row (by decide)]; exact fillM_in (by omega) (by omega)
            · rw [up_at, hutI_hi (by omega) hn, thM_89]
            · rw [up_ne k1]
              simp only [u2]
              rw [if_neg k2]
              exact fillM_ne (by omega)
      · refine r_aload_n (pc := 40) C dX9_there_40 rfl ?_
        refine r_getr (pc := 41) C fX9_19 dX9_there_41 (s_85 _) rfl rfl ?_
        refine r_bipush (pc := 44) C (38) dX9_there_44 (by decide) ?_
        refine r_iload_n (pc := 46) C dX9_there_46 rfl ?_
        refine r_iadd (pc := 47) C dX9_there_47 ?_
        refine q_iald (pc := 48) C (38 + i) dX9_there_48 (s_89 _) (sn_89 _) (nI_add 38 i) (by omega) (by decide) ?_
        refine r_goto (pc := 49) C 78 dX9_there_49 (by decide) ?_
        refine r_istore_n (pc := 78) C dX9_there_78 (by decide) rfl ?_
        refine r_aload_n (pc := 79) C dX9_there_79 rfl ?_
        refine q_vVf (pc := 80) C kX9_209 dX9_there_80 (c_X9_takeBack) (s_85 _) rfl rfl (Nat.le_of_ble_eq_true rfl) (by decide) ⟨by decide, by decide⟩ ?_
        refine r_iload_n (pc := 83) C dX9_there_83 rfl ?_
        refine q_iret (pc := 84) C dX9_there_84 rfl ?_
        refine ⟨?_, ?_⟩
        · rw [up_at, thM_89]; simp [R_there, c5, ti, c17, c37]; rfl
        · skip
          refine agF.back (fun t ht => ?_) (fun t ht => ?_) (fun k b k1 k2 k3 => ?_)
          · rw [up_ne (by decide), u2_row (by decide)]; exact fillM_in (by omega) (by omega)
          · rw [up_at, hutI_hi (by omega) hn, thM_89]
          · rw [up_ne k1]
            simp only [u2]
            rw [if_neg k2]
            exact fillM_ne (by omega)
    · replace c17 := b1_0 c17
      refine r_ldc (pc := 20) C (-1000001) kX9_76 dX9_there_20 ?_
      refine q_iret (pc := 22) C dX9_there_22 rfl ?_
      exact ⟨by simp [R_there, c5, ti, c17], agF.rf⟩
def R_allThere (f : MM) (n L g : Nat) : Int32 := if f 85 4 = 0 then -1000002 else tryV n L g (f 89) (f 89 10) (f 89 11)
set_option maxRecDepth 100000 in
set_option maxHeartbeats 4000000 in
theorem c_X9_allThere {G : GG} {kn : Nat} {f : MM} {n L g : Nat} (hn : n ≤ 6) (hL : L ≤ 8) (hg : g ≤ L) (h13 : f 89 13 = nI n) (h8 : f 89 8 = nI L) (h9 : f 89 9 = nI g) : RI G mX9_allThere 7 kn [.ref (G.1 + 85)] f (fun v g2 => v = R_allThere f n L g ∧ agF f g2) := by
  refine Ct.of [some (.ref (G.1 + 85))] rfl (by decide +kernel) rfl (Nat.le_of_ble_eq_true rfl) rfl ?_
  intro X C
  refine r_aload_n (pc := 0) C dX9_allThere_0 rfl ?_
  refine r_get (pc := 1) C fX9_154 dX9_allThere_1 (s_85 _) rfl ?_
  refine r_if_eq (pc := 4) C 28 dX9_allThere_4 (by decide) (fun c4 => ?_) (fun c4 => ?_)
  · refine r_ldc (pc := 28) C (-1000002) kX9_183 dX9_allThere_28 ?_
    refine q_iret (pc := 30) C dX9_allThere_30 rfl ?_
    exact ⟨by simp [R_allThere, c4], agF.rf⟩
  · refine r_aload_n (pc := 7) C dX9_allThere_7 rfl ?_
    refine r_aload_n (pc := 8) C dX9_allThere_8 rfl ?_
    refine r_getr (pc := 9) C fX9_19 dX9_allThere_9 (s_85 _) rfl rfl ?_
    refine r_bipush (pc := 12) C (10) dX9_allThere_12 (by decide) ?_
    refine q_iald (pc := 14) C 10 dX9_allThere_14 (s_89 _) (sn_89 _) rfl (by omega) (by decide) ?_
    refine r_aload_n (pc := 15) C dX9_allThere_15 rfl ?_
    refine r_getr (pc := 16) C fX9_19 dX9_allThere_16 (s_85 _) rfl rfl ?_
    refine r_bipush (pc := 19) C (11) dX9_allThere_19 (by decide) ?_
    refine q_iald (pc := 21) C 11 dX9_allThere_21 (s_89 _) (sn_89 _) rfl (by omega) (by decide) ?_
    refine q_vI (pc := 22) C kX9_212 dX9_allThere_22 (c_X9_tryAll hn hL hg h13 h8 h9) (s_85 _) rfl rfl (Nat.le_of_ble_eq_true rfl) (by decide) ⟨by decide, by decide⟩ ?_
    intro v22 f22 h22
    obtain ⟨rfl, a22⟩ := h22
    refine r_goto (pc := 25) C 30 dX9_allThere_25 (by decide) ?_
    refine q_iret (pc := 30) C dX9_allThere_30 rfl ?_
    exact ⟨by simp [R_allThere, c4], a22⟩
/-- the search of the reference: the best, and the least, of the first k -/
def soI (v : Nat → Int32) : Nat → Nat × Int32
  | 0 => (0, -1)
  | k + 1 => if (soI v k).2 < 0 then (k, v k) else if (soI v k).2 ≤ v k then soI v k else (k, v k)
theorem soI_lt {v : Nat → Int32} : ∀ k, (soI v (k + 1)).1 < k + 1 := by
  intro k
  induction k with
  | zero =>
    show (if (-1 : Int32) < 0 then ((0 : Nat), v 0) else if (-1 : Int32) ≤ v 0 then (0, -1) else (0, v 0)).1 < 1
    split
    · exact Nat.one_pos
    · split <;> exact Nat.one_pos
  | succ k ih =>
    show (if (soI v (k + 1)).2 < 0 then (k + 1, v (k + 1)) else if (soI v (k + 1)).2 ≤ v (k + 1) then soI v (k + 1) else (k + 1, v (k + 1))).1 < k + 1 + 1
    split
    · exact Nat.lt_succ_self _
    · split
      · exact Nat.lt_succ_of_lt ih
      · exact Nat.lt_succ_self _
theorem soI_ne {v : Nat → Int32} {k : Nat} (h : ¬ (soI v k).2 < 0) : (soI v k).1 < k := by
  cases k with
  | zero => exact absurd (show (-1 : Int32) < 0 by decide) h
  | succ k => exact soI_lt k
def n124 : Nat := 124
theorem n124_eq : n124 = 124 := rfl
theorem div31 {k : Nat} (h : k < 2000) : nI k / 31 = nI (k / 31) := pk_div (d := 31) (by omega) (by decide) (by decide)
theorem rem31 {k : Nat} (h : k < 2000) : nI k - nI k / 31 * 31 = nI (k % 31) := pk_rem (d := 31) (by omega) (by decide) (by decide)
theorem soI_bd {v : Nat → Int32} : ∀ k, (soI v k).1 ≤ k := by
  intro k
  cases k with
  | zero => exact Nat.le_refl _
  | succ k => exact Nat.le_of_lt (soI_lt k)
def soV (n L g : Nat) (st : Nat → Int32) : Nat → Int32 := fun k => tryV n L g st (nI (k / 31)) (nI (k % 31))
def R_soonest (f : MM) (n L g : Nat) (q : Int32) : Int32 := if f 85 4 = 0 then -1000002 else if inR q 3 = true then (fun s => if q = 0 then nI (s.1 / 31) else if q = 1 then nI (s.1 % 31) else s.2) (soI (soV n L g (f 89)) n124) else -1000001
set_option maxRecDepth 100000 in
set_option maxHeartbeats 4000000 in
theorem l_soonest {X : XT} {G : GG} {kn : Nat} {Q : State → Prop} {f : MM} {n L g : Nat} {a : Int32} (C : Cx X G mX9_soonest 7 0 0 (NN kn)) (hn : n ≤ 6) (hL : L ≤ 8) (hg : g ≤ L) (h13 : f 89 13 = nI n) (h8 : f 89 8 = nI L) (h9 : f 89 9 = nI g) (K : ∀ g2 : MM, (fun _ g2 => agF f g2) n124 g2 → Vw X G mX9_soonest.2.2.2.1 0 0 Q (NN kn) (shF kn) g2 91 [some (.ref (G.1 + 85)), some (.int a), some (.int (nI (soI (soV n L g (f 89)) n124).1)), some (.int (soI (soV n L g (f 89)) n124).2), some (.int (nI n124)), none] []) : ∀ (m i : Nat) (g2 : MM), i + m = n124 → (fun _ g2 => agF f g2) i g2 → Vw X G mX9_soonest.2.2.2.1 0 0 Q (NN kn) (shF kn) g2 32 [some (.ref (G.1 + 85)), some (.int a), some (.int (nI (soI (soV n L g (f 89)) i).1)), some (.int (soI (soV n L g (f 89)) i).2), some (.int (nI i)), none] [] := by
  intro m
  induction m with
  | zero =>
    intro i g2 hm hg2
    obtain rfl : n124 = i := by omega
    have hN := n124_eq
    refine r_iload (pc := 32) C dX9_soonest_32 rfl ?_
    refine r_bipush (pc := 34) C (124) dX9_soonest_34 (by decide) ?_
    refine q_ge (pc := 36) C n124 124 91 rfl rfl (by omega) (by omega) dX9_soonest_36 (by decide) (fun c36 => ?_) (fun c36 => ?_)
    · exact K _ hg2
    · exact absurd c36 (by omega)
  | succ m ih =>
    intro i g2 hm hg2
    have hN := n124_eq
    refine r_iload (pc := 32) C dX9_soonest_32 rfl ?_
    refine r_bipush (pc := 34) C (124) dX9_soonest_34 (by decide) ?_
    refine q_ge (pc := 36) C i 124 91 rfl rfl (by omega) (by omega) dX9_soonest_36 (by decide) (fun c36 => ?_) (fun c36 => ?_)
    · exact absurd c36 (by omega)
    · refine r_aload_n (pc := 39) C dX9_soonest_39 rfl ?_
      refine r_iload (pc := 40) C dX9_soonest_40 rfl ?_
      refine r_bipush (pc := 42) C (31) dX9_soonest_42 (by decide) ?_
      refine r_idiv (pc := 44) C dX9_soonest_44 (by decide) ?_
      refine q_is (i / 31) (div31 (by omega)) ?_
      refine r_iload (pc := 45) C dX9_soonest_45 rfl ?_
      refine r_bipush (pc := 47) C (31) dX9_soonest_47 (by decide) ?_
      refine r_irem (pc := 49) C dX9_soonest_49 (by decide) ?_
      refine q_is (i % 31) (rem31 (by omega)) ?_
      refine q_vI (pc := 50) C kX9_212 dX9_soonest_50 (c_X9_tryAll hn hL hg (by rw [hg2.st]; exact h13) (by rw [hg2.st]; exact h8) (by rw [hg2.st]; exact h9)) (s_85 _) rfl rfl (Nat.le_of_ble_eq_true rfl) (by decide) ⟨by decide, by decide⟩ ?_
      intro v50 f50 h50
      obtain ⟨rfl, a50⟩ := h50
      rw [hg2.st]
      refine q_val (soV n L g (f 89) i) rfl ?_
      have hbd := soI_bd (v := (soV n L g (f 89))) i
      refine r_istore (pc := 53) C dX9_soonest_53 (by decide) rfl ?_
      refine r_iload_n (pc := 55) C dX9_soonest_55 rfl ?_
      refine r_if_lt (pc := 56) C 65 dX9_soonest_56 (by decide) (fun c56 => ?_) (fun c56 => ?_)
      · refine r_iload (pc := 65) C dX9_soonest_65 rfl ?_
        refine r_goto (pc := 67) C 71 dX9_soonest_67 (by decide) ?_
        refine r_istore_n (pc := 71) C dX9_soonest_71 (by decide) rfl ?_
        refine r_iload_n (pc := 72) C dX9_soonest_72 rfl ?_
        refine r_iload (pc := 73) C dX9_soonest_73 rfl ?_
        refine q_ne (pc := 75) C i i 83 rfl rfl (by omega) (by omega) dX9_soonest_75 (by decide) (fun c75 => ?_) (fun c75 => ?_)
        · exact absurd rfl c75
        · refine r_iload (pc := 78) C dX9_soonest_78 rfl ?_
          refine r_goto (pc := 80) C 84 dX9_soonest_80 (by decide) ?_
          refine r_istore_n (pc := 84) C dX9_soonest_84 (by decide) rfl ?_
          refine r_iinc (pc := 85) C (nI (i + 1)) dX9_soonest_85 rfl (nI_inc _) (by decide) rfl ?_
          refine r_goto (pc := 88) C 32 dX9_soonest_88 (by decide) ?_
          have e1 : soI (soV n L g (f 89)) (i + 1) = (i, (soV n L g (f 89)) i) := by
            show (if (soI (soV n L g (f 89)) i).2 < 0 then (i, (soV n L g (f 89)) i) else if (soI (soV n L g (f 89)) i).2 ≤ (soV n L g (f 89)) i then soI (soV n L g (f 89)) i else (i, (soV n L g (f 89)) i)) = _
            simp only [c56, if_true, if_false]
          have h := ih (i + 1) _ (by omega) (hg2.tr a50)
          rw [e1] at h
          exact v_drop _ (by repeat (first | exact trivial | exact rfl | constructor)) h
      · have hlt := soI_ne c56
        refine r_iload (pc := 59) C dX9_soonest_59 rfl ?_
        refine r_iload_n (pc := 61) C dX9_soonest_61 rfl ?_
        refine r_icmp_ge (pc := 62) C 70 dX9_soonest_62 (by decide) (fun c62 => ?_) (fun c62 => ?_)
        · refine r_iload_n (pc := 70) C dX9_soonest_70 rfl ?_
          refine r_istore_n (pc := 71) C dX9_soonest_71 (by decide) rfl ?_
          refine r_iload_n (pc := 72) C dX9_soonest_72 rfl ?_
          refine r_iload (pc := 73) C dX9_soonest_73 rfl ?_
          refine q_ne (pc := 75) C ((soI (soV n L g (f 89)) i).1) i 83 rfl rfl (by omega) (by omega) dX9_soonest_75 (by decide) (fun c75 => ?_) (fun c75 => ?_)
          · refine r_iload_n (pc := 83) C dX9_soonest_83 rfl ?_
            refine r_istore_n (pc := 84) C dX9_soonest_84 (by decide) rfl ?_
            refine r_iinc (pc := 85) C (nI (i + 1)) dX9_soonest_85 rfl (nI_inc _) (by decide) rfl ?_
            refine r_goto (pc := 88) C 32 dX9_soonest_88 (by decide) ?_
            have e1 : soI (soV n L g (f 89)) (i + 1) = soI (soV n L g (f 89)) i := by
              show (if (soI (soV n L g (f 89)) i).2 < 0 then (i, (soV n L g (f 89)) i) else if (soI (soV n L g (f 89)) i).2 ≤ (soV n L g (f 89)) i then soI (soV n L g (f 89)) i else (i, (soV n L g (f 89)) i)) = _
              simp only [c56, c62, if_true, if_false]
            have h := ih (i + 1) _ (by omega) (hg2.tr a50)
            rw [e1] at h
            exact v_drop _ (by repeat (first | exact trivial | exact rfl | constructor)) h
          · exact absurd c75 (by omega)
        · refine r_iload (pc := 65) C dX9_soonest_65 rfl ?_
          refine r_goto (pc := 67) C 71 dX9_soonest_67 (by decide) ?_
          refine r_istore_n (pc := 71) C dX9_soonest_71 (by decide) rfl ?_
          refine r_iload_n (pc := 72) C dX9_soonest_72 rfl ?_
          refine r_iload (pc := 73) C dX9_soonest_73 rfl ?_
          refine q_ne (pc := 75) C i i 83 rfl rfl (by omega) (by omega) dX9_soonest_75 (by decide) (fun c75 => ?_) (fun c75 => ?_)
          · exact absurd rfl c75
          · refine r_iload (pc := 78) C dX9_soonest_78 rfl ?_
            refine r_goto (pc := 80) C 84 dX9_soonest_80 (by decide) ?_
            refine r_istore_n (pc := 84) C dX9_soonest_84 (by decide) rfl ?_
            refine r_iinc (pc := 85) C (nI (i + 1)) dX9_soonest_85 rfl (nI_inc _) (by decide) rfl ?_
            refine r_goto (pc := 88) C 32 dX9_soonest_88 (by decide) ?_
            have e1 : soI (soV n L g (f 89)) (i + 1) = (i, (soV n L g (f 89)) i) := by
              show (if (soI (soV n L g (f 89)) i).2 < 0 then (i, (soV n L g (f 89)) i) else if (soI (soV n L g (f 89)) i).2 ≤ (soV n L g (f 89)) i then soI (soV n L g (f 89)) i else (i, (soV n L g (f 89)) i)) = _
              simp only [c56, c62, if_true, if_false]
            have h := ih (i + 1) _ (by omega) (hg2.tr a50)
            rw [e1] at h
            exact v_drop _ (by repeat (first | exact trivial | exact rfl | constructor)) h
set_option maxRecDepth 100000 in
set_option maxHeartbeats 4000000 in
theorem c_X9_soonest {G : GG} {kn : Nat} {f : MM} {n L g : Nat} (hn : n ≤ 6) (hL : L ≤ 8) (hg : g ≤ L) (h13 : f 89 13 = nI n) (h8 : f 89 8 = nI L) (h9 : f 89 9 = nI g) {a : Int32} : RI G mX9_soonest 7 kn [.ref (G.1 + 85), .int a] f (fun v g2 => v = R_soonest f n L g a ∧ agF f g2) := by
  refine Ct.of [some (.ref (G.1 + 85)), some (.int a), none, none, none, none] rfl (by decide +kernel) rfl (Nat.le_of_ble_eq_true rfl) rfl ?_
  intro X C
  refine r_aload_n (pc := 0) C dX9_soonest_0 rfl ?_
  refine r_get (pc := 1) C fX9_154 dX9_soonest_1 (s_85 _) rfl ?_
  refine r_if_ne (pc := 4) C 10 dX9_soonest_4 (by decide) (fun c4 => ?_) (fun c4 => ?_)
  · refine r_iload_n (pc := 10) C dX9_soonest_10 rfl ?_
    refine r_i2l (pc := 11) C dX9_soonest_11 ?_
    refine r_lconst (pc := 12) C (0) dX9_soonest_12 (by decide) ?_
    refine r_ldc2 (pc := 13) C (2) kX9_74 dX9_soonest_13 ?_
    refine q_sIf (pc := 16) C kX9_66 dX9_soonest_16 (c_in0 (hi := 2) 3 rfl (by decide) (by decide)) rfl rfl (Nat.le_of_ble_eq_true rfl) (by decide) ⟨by decide, by decide⟩ ?_
    refine r_if_ne (pc := 19) C 25 dX9_soonest_19 (by decide) (fun c19 => ?_) (fun c19 => ?_)
    · replace c19 := b1_1 c19
      refine r_iconst (pc := 25) C (0) dX9_soonest_25 (by decide) ?_
      refine r_istore_n (pc := 26) C dX9_soonest_26 (by decide) rfl ?_
      refine r_iconst (pc := 27) C (-1) dX9_soonest_27 (by decide) ?_
      refine r_istore_n (pc := 28) C dX9_soonest_28 (by decide) rfl ?_
      refine r_iconst (pc := 29) C (0) dX9_soonest_29 (by decide) ?_
      refine r_istore (pc := 30) C dX9_soonest_30 (by decide) rfl ?_
      refine l_soonest C hn hL hg h13 h8 h9 ?_ n124 0 _ (Nat.zero_add _) agF.rf
      intro g2 hg2
      have hbd := soI_bd (v := (soV n L g (f 89))) n124
      have hN := n124_eq
      refine r_iload_n (pc := 91) C dX9_soonest_91 rfl ?_
      refine r_if_ne (pc := 92) C 102 dX9_soonest_92 (by decide) (fun c92 => ?_) (fun c92 => ?_)
      · refine r_iload_n (pc := 102) C dX9_soonest_102 rfl ?_
        refine r_iconst (pc := 103) C (1) dX9_soonest_103 (by decide) ?_
        refine r_icmp_ne (pc := 104) C 114 dX9_soonest_104 (by decide) (fun c104 => ?_) (fun c104 => ?_)
        · refine r_iload_n (pc := 114) C dX9_soonest_114 rfl ?_
          refine q_iret (pc := 115) C dX9_soonest_115 rfl ?_
          exact ⟨by rw [R_soonest, if_neg c4, if_pos c19]; simp [c92, c104], hg2⟩
        · refine r_iload_n (pc := 107) C dX9_soonest_107 rfl ?_
          refine r_bipush (pc := 108) C (31) dX9_soonest_108 (by decide) ?_
          refine r_irem (pc := 110) C dX9_soonest_110 (by decide) ?_
          refine q_is ((soI (soV n L g (f 89)) n124).1 % 31) (rem31 (by omega)) ?_
          refine r_goto (pc := 111) C 115 dX9_soonest_111 (by decide) ?_
          refine q_iret (pc := 115) C dX9_soonest_115 rfl ?_
          exact ⟨by rw [R_soonest, if_neg c4, if_pos c19]; simp [c92, c104], hg2⟩
      · refine r_iload_n (pc := 95) C dX9_soonest_95 rfl ?_
        refine r_bipush (pc := 96) C (31) dX9_soonest_96 (by decide) ?_
        refine r_idiv (pc := 98) C dX9_soonest_98 (by decide) ?_
        refine q_is ((soI (soV n L g (f 89)) n124).1 / 31) (div31 (by omega)) ?_
        refine r_goto (pc := 99) C 115 dX9_soonest_99 (by decide) ?_
        refine q_iret (pc := 115) C dX9_soonest_115 rfl ?_
        exact ⟨by rw [R_soonest, if_neg c4, if_pos c19]; simp [c92], hg2⟩
    · replace c19 := b1_0 c19
      refine r_ldc (pc := 22) C (-1000001) kX9_76 dX9_soonest_22 ?_
      refine q_iret (pc := 24) C dX9_soonest_24 rfl ?_
      exact ⟨by simp [R_soonest, c4, c19], agF.rf⟩
  · refine r_ldc (pc := 7) C (-1000002) kX9_183 dX9_soonest_7 ?_
    refine q_iret (pc := 9) C dX9_soonest_9 rfl ?_
    exact ⟨by simp [R_soonest, c4], agF.rf⟩
/-- behind findThen: the minutes of all stand in cell 96, and in 95 if wanted -/
def PoThen (n L g : Nat) (f : MM) (r m : Int32) (fr : Bool) (g2 : MM) : Prop := agF f g2 ∧ (∀ w, w < n → g2 96 w = hutV n L g (f 89) r m (38 + w)) ∧ (fr = true → ∀ w, w < n → g2 95 w = hutV n L g (f 89) r m (38 + w)) ∧ (fr = false → ∀ w, g2 95 w = f 95 w)
theorem fillM2 {g0 : MM} {c d a i : Nat} {s t : Nat → Int32} {v w : Int32} (hcd : c ≠ d) (hv : v = s i) (hw : w = t i) : u2 (u2 (fillM (fillM g0 c a i s) d a i t) c (a + i) v) d (a + i) w = fillM (fillM g0 c a (i + 1) s) d a (i + 1) t := by
  rw [← fillM_step (g0 := g0) (c := c) hv]
  rw [← fillM_step hw]
  congr 1
  funext k b
  simp only [u2, fillM]
  by_cases h1 : k = c ∧ b = a + i
  · rw [if_pos h1, if_neg (by omega), if_pos h1]
  · rw [if_neg h1]
    by_cases h2 : k = d ∧ a ≤ b ∧ b < a + i
    · rw [if_pos h2, if_pos h2]
    · rw [if_neg h2, if_neg h2, if_neg h1]
theorem fillM20 {g0 : MM} {c d i : Nat} {s t : Nat → Int32} {v w : Int32} (hcd : c ≠ d) (hv : v = s i) (hw : w = t i) : u2 (u2 (fillM (fillM g0 c 0 i s) d 0 i t) c i v) d i w = fillM (fillM g0 c 0 (i + 1) s) d 0 (i + 1) t := by
  have := fillM2 (g0 := g0) (a := 0) hcd hv hw
  rwa [Nat.zero_add] at this
set_option maxRecDepth 100000 in
set_option maxHeartbeats 4000000 in
theorem l_findThen {X : XT} {G : GG} {kn : Nat} {Q : State → Prop} {g0 : MM} {n : Nat} {fr : Bool} (C : Cx X G mX9_findThen 6 0 0 (NN kn)) (hn : n ≤ 6) (h13 : g0 89 13 = nI n) (K : ∀ g : MM, (fun i g => g = fillM (fillM g0 95 0 i (fun w => if fr = true then g0 89 (38 + w) else g0 95 w)) 96 0 i (fun w => g0 89 (38 + w))) n g → Vw X G mX9_findThen.2.2.2.1 0 0 Q (NN kn) (shF kn) g 98 [some (.ref (G.1 + 85)), none, none, some (.int (b1 fr)), some (.int (nI n))] []) : ∀ (m i : Nat) (g : MM), i + m = n → (fun i g => g = fillM (fillM g0 95 0 i (fun w => if fr = true then g0 89 (38 + w) else g0 95 w)) 96 0 i (fun w => g0 89 (38 + w))) i g → Vw X G mX9_findThen.2.2.2.1 0 0 Q (NN kn) (shF kn) g 32 [some (.ref (G.1 + 85)), none, none, some (.int (b1 fr)), some (.int (nI i))] [] := by
  intro m
  induction m with
  | zero =>
    intro i g hm hg
    obtain rfl : n = i := by omega
    subst hg
    refine r_iload (pc := 32) C dX9_findThen_32 rfl ?_
    refine r_aload_n (pc := 34) C dX9_findThen_34 rfl ?_
    refine r_getr (pc := 35) C fX9_19 dX9_findThen_35 (s_85 _) rfl rfl ?_
    refine r_bipush (pc := 38) C (13) dX9_findThen_38 (by decide) ?_
    refine q_iald (pc := 40) C 13 dX9_findThen_40 (s_89 _) (sn_89 _) rfl (by omega) (by decide) ?_
    refine q_ge (pc := 41) C n n 98 rfl (by rw [fillM_ne (by decide), fillM_ne (by decide)]; exact h13) (by omega) (by omega) dX9_findThen_41 (by decide) (fun c41 => ?_) (fun c41 => ?_)
    · exact K _ rfl
    · exact absurd c41 (by omega)
  | succ m ih =>
    intro i g hm hg
    subst hg
    refine r_iload (pc := 32) C dX9_findThen_32 rfl ?_
    refine r_aload_n (pc := 34) C dX9_findThen_34 rfl ?_
    refine r_getr (pc := 35) C fX9_19 dX9_findThen_35 (s_85 _) rfl rfl ?_
    refine r_bipush (pc := 38) C (13) dX9_findThen_38 (by decide) ?_
    refine q_iald (pc := 40) C 13 dX9_findThen_40 (s_89 _) (sn_89 _) rfl (by omega) (by decide) ?_
    refine q_ge (pc := 41) C i n 98 rfl (by rw [fillM_ne (by decide), fillM_ne (by decide)]; exact h13) (by omega) (by omega) dX9_findThen_41 (by decide) (fun c41 => ?_) (fun c41 => ?_)
    · exact absurd c41 (by omega)
    · refine r_aload_n (pc := 44) C dX9_findThen_44 rfl ?_
      refine r_getr (pc := 45) C fX9_37 dX9_findThen_45 (s_85 _) rfl rfl ?_
      refine r_iload (pc := 48) C dX9_findThen_48 rfl ?_
      refine r_iload_n (pc := 50) C dX9_findThen_50 rfl ?_
      refine r_if_eq (pc := 51) C 67 dX9_findThen_51 (by decide) (fun c51 => ?_) (fun c51 => ?_)
      · replace c51 := b1_0 c51
        refine r_aload_n (pc := 67) C dX9_findThen_67 rfl ?_
        refine r_getr (pc := 68) C fX9_37 dX9_findThen_68 (s_85 _) rfl rfl ?_
        refine r_iload (pc := 71) C dX9_findThen_71 rfl ?_
        refine q_iald (pc := 73) C i dX9_findThen_73 (s_95 _) (sn_95 _) rfl (by omega) (by decide) ?_
        refine q_val ((fun w => if fr = true then g0 89 (38 + w) else g0 95 w) i) (by first | (rw [fillM_ne (by decide), fillM_ne (by decide)]; simp [c51]; done) | (rw [fillM_ne (by decide), fillM_out (by omega)]; simp [c51]; done)) ?_
        refine q_iast (pc := 74) C i dX9_findThen_74 (s_95 _) (sn_95 _) rfl (by omega) (by decide) ?_
        refine r_aload_n (pc := 75) C dX9_findThen_75 rfl ?_
        refine r_getr (pc := 76) C fX9_40 dX9_findThen_76 (s_85 _) rfl rfl ?_
        refine r_iload (pc := 79) C dX9_findThen_79 rfl ?_
        refine r_aload_n (pc := 81) C dX9_findThen_81 rfl ?_
        refine r_getr (pc := 82) C fX9_19 dX9_findThen_82 (s_85 _) rfl rfl ?_
        refine r_bipush (pc := 85) C (38) dX9_findThen_85 (by decide) ?_
        refine r_iload (pc := 87) C dX9_findThen_87 rfl ?_
        refine r_iadd (pc := 89) C dX9_findThen_89 ?_
        refine q_iald (pc := 90) C (38 + i) dX9_findThen_90 (s_89 _) (sn_89 _) (nI_add 38 i) (by omega) (by decide) ?_
        refine q_iast (pc := 91) C i dX9_findThen_91 (s_96 _) (sn_96 _) rfl (by omega) (by decide) ?_
        refine r_iinc (pc := 92) C (nI (i + 1)) dX9_findThen_92 rfl (nI_inc _) (by decide) rfl ?_
        refine r_goto (pc := 95) C 32 dX9_findThen_95 (by decide) ?_
        refine ih (i + 1) _ (by omega) ?_
        exact fillM20 (by decide) rfl (by rw [u2_row (by decide), fillM_ne (by decide), fillM_ne (by decide)])
      · replace c51 := b1_1 c51
        refine r_aload_n (pc := 54) C dX9_findThen_54 rfl ?_
        refine r_getr (pc := 55) C fX9_19 dX9_findThen_55 (s_85 _) rfl rfl ?_
        refine r_bipush (pc := 58) C (38) dX9_findThen_58 (by decide) ?_
        refine r_iload (pc := 60) C dX9_findThen_60 rfl ?_
        refine r_iadd (pc := 62) C dX9_findThen_62 ?_
        refine q_iald (pc := 63) C (38 + i) dX9_findThen_63 (s_89 _) (sn_89 _) (nI_add 38 i) (by omega) (by decide) ?_
        refine r_goto (pc := 64) C 74 dX9_findThen_64 (by decide) ?_
        refine q_val ((fun w => if fr = true then g0 89 (38 + w) else g0 95 w) i) (by first | (rw [fillM_ne (by decide), fillM_ne (by decide)]; simp [c51]; done) | (rw [fillM_ne (by decide), fillM_out (by omega)]; simp [c51]; done)) ?_
        refine q_iast (pc := 74) C i dX9_findThen_74 (s_95 _) (sn_95 _) rfl (by omega) (by decide) ?_
        refine r_aload_n (pc := 75) C dX9_findThen_75 rfl ?_
        refine r_getr (pc := 76) C fX9_40 dX9_findThen_76 (s_85 _) rfl rfl ?_
        refine r_iload (pc := 79) C dX9_findThen_79 rfl ?_
        refine r_aload_n (pc := 81) C dX9_findThen_81 rfl ?_
        refine r_getr (pc := 82) C fX9_19 dX9_findThen_82 (s_85 _) rfl rfl ?_
        refine r_bipush (pc := 85) C (38) dX9_findThen_85 (by decide) ?_
        refine r_iload (pc := 87) C dX9_findThen_87 rfl ?_
        refine r_iadd (pc := 89) C dX9_findThen_89 ?_
        refine q_iald (pc := 90) C (38 + i) dX9_findThen_90 (s_89 _) (sn_89 _) (nI_add 38 i) (by omega) (by decide) ?_
        refine q_iast (pc := 91) C i dX9_findThen_91 (s_96 _) (sn_96 _) rfl (by omega) (by decide) ?_
        refine r_iinc (pc := 92) C (nI (i + 1)) dX9_findThen_92 rfl (nI_inc _) (by decide) rfl ?_
        refine r_goto (pc := 95) C 32 dX9_findThen_95 (by decide) ?_
        refine ih (i + 1) _ (by omega) ?_
        exact fillM20 (by decide) rfl (by rw [u2_row (by decide), fillM_ne (by decide), fillM_ne (by decide)])
set_option maxRecDepth 100000 in
set_option maxHeartbeats 4000000 in
theorem c_X9_findThen {G : GG} {kn : Nat} {f : MM} {n L g : Nat} (hn : n ≤ 6) (hL : L ≤ 8) (hg : g ≤ L) (h13 : f 89 13 = nI n) (h8 : f 89 8 = nI L) (h9 : f 89 9 = nI g) {a b : Int32} {fr : Bool} : RV G mX9_findThen 6 kn [.ref (G.1 + 85), .int a, .int b, .int (b1 fr)] f (fun g2 => PoThen n L g f a b fr g2) := by
  refine Ct.of [some (.ref (G.1 + 85)), some (.int a), some (.int b), some (.int (b1 fr)), none] rfl (by decide +kernel) rfl (Nat.le_of_ble_eq_true rfl) rfl ?_
  intro X C
  refine r_aload_n (pc := 0) C dX9_findThen_0 rfl ?_
  refine q_vVf (pc := 1) C kX9_203 dX9_findThen_1 (c_X9_putAside) (s_85 _) rfl rfl (Nat.le_of_ble_eq_true rfl) (by decide) ⟨by decide, by decide⟩ ?_
  refine r_aload_n (pc := 4) C dX9_findThen_4 rfl ?_
  refine r_getr (pc := 5) C fX9_19 dX9_findThen_5 (s_85 _) rfl rfl ?_
  refine r_bipush (pc := 8) C (10) dX9_findThen_8 (by decide) ?_
  refine r_iload_n (pc := 10) C dX9_findThen_10 rfl ?_
  refine q_iast (pc := 11) C 10 dX9_findThen_11 (s_89 _) (sn_89 _) rfl (by omega) (by decide) ?_
  refine r_aload_n (pc := 12) C dX9_findThen_12 rfl ?_
  refine r_getr (pc := 13) C fX9_19 dX9_findThen_13 (s_85 _) rfl rfl ?_
  refine r_bipush (pc := 16) C (11) dX9_findThen_16 (by decide) ?_
  refine r_iload_n (pc := 18) C dX9_findThen_18 rfl ?_
  refine q_iast (pc := 19) C 11 dX9_findThen_19 (s_89 _) (sn_89 _) rfl (by omega) (by decide) ?_
  refine q_f (f' := tryM f a b) rfl ?_
  refine r_aload_n (pc := 20) C dX9_findThen_20 rfl ?_
  refine r_aload_n (pc := 21) C dX9_findThen_21 rfl ?_
  refine q_vIf (pc := 22) C kX9_187 dX9_findThen_22 (c_X9_all (n := n) (by rw [tryM_89, upd_ne (by decide), upd_ne (by decide)]; exact h13)) (s_85 _) rfl rfl (Nat.le_of_ble_eq_true rfl) (by decide) ⟨by decide, by decide⟩ ?_
  refine q_vIf (pc := 25) C kX9_206 dX9_findThen_25 (c_X9_toHut (n := n) (L := L) (g := g) hn hL hg (by rw [tryM_89, upd_ne (by decide), upd_ne (by decide)]; exact h13) (by rw [tryM_89, upd_ne (by decide), upd_ne (by decide)]; exact h8) (by rw [tryM_89, upd_ne (by decide), upd_ne (by decide)]; exact h9)) (s_85 _) rfl rfl (Nat.le_of_ble_eq_true rfl) (by decide) ⟨by decide, by decide⟩ ?_
  refine r_pop (pc := 28) C dX9_findThen_28 rfl ?_
  refine r_iconst (pc := 29) C (0) dX9_findThen_29 (by decide) ?_
  refine r_istore (pc := 30) C dX9_findThen_30 (by decide) rfl ?_
  refine v_drop _ (by repeat (first | exact trivial | exact rfl | constructor)) (l_findThen (g0 := va_up (u2 (tryM f a b) 85 16 (allI n)) 89 (hutI n L (allI n) (L - g) g (tryM f a b 89))) (n := n) (fr := fr) C hn (by rw [up_at, hutI_lo (by decide) (by decide), tryM_89, upd_ne (by decide), upd_ne (by decide)]; exact h13) ?_ n 0 _ (by omega) (by dsimp only; rw [fillM_0, fillM_0]; rfl))
  intro g3 hg3
  subst hg3
  refine r_aload_n (pc := 98) C dX9_findThen_98 rfl ?_
  refine q_vVf (pc := 99) C kX9_209 dX9_findThen_99 (c_X9_takeBack) (s_85 _) rfl rfl (Nat.le_of_ble_eq_true rfl) (by decide) ⟨by decide, by decide⟩ ?_
  refine q_vret (pc := 102) C dX9_findThen_102 rfl ?_
  refine ⟨?_, fun w hw => ?_, fun hf w hw => ?_, fun hf w => ?_⟩
  · skip
    refine agF.back (fun t ht => ?_) (fun t ht => ?_) (fun k b k1 k2 k3 => ?_)
    · rw [fillM_ne (by decide), fillM_ne (by decide), up_ne (by decide), u2_row (by decide), tryM_94 ht]
    · rw [fillM_ne (by decide), fillM_ne (by decide), up_at, hutI_hi (by omega) hn, tryM_89, upd_ne (by omega), upd_ne (by omega)]
    · rw [fillM_ne (by omega), fillM_ne (by omega), up_ne k1]
      simp only [u2]
      rw [if_neg k2, tryM_ne k1 (by omega)]
  · rw [fillM_ne (by decide), fillM_in (by omega) (by omega), up_at, tryM_89]; rfl
  · rw [fillM_ne (by decide), fillM_ne (by decide), fillM_in (by omega) (by omega), up_at, tryM_89]; simp [hf]; rfl
  · rw [fillM_ne (by decide), fillM_ne (by decide)]
    by_cases hw : w < n
    · rw [fillM_in (by omega) (by omega)]; simp [hf]; rw [up_ne (by decide), u2_row (by decide)]; exact tryM_ne (by decide) (by decide)
    · rw [fillM_out (by omega), up_ne (by decide), u2_row (by decide)]; exact tryM_ne (by decide) (by decide)
def R_loses (f : MM) (n L g : Nat) (w : Int32) : Int32 := if inR w n = true then hutV n L g (f 89) (f 89 10) (f 89 11) (38 + tn w) - hutV n L g (f 89) 3 0 (38 + tn w) else -1000001
set_option maxRecDepth 100000 in
set_option maxHeartbeats 4000000 in
theorem c_X9_loses {G : GG} {kn : Nat} {f : MM} {n L g : Nat} (hn : n ≤ 6) (hL : L ≤ 8) (hg : g ≤ L) (h13 : f 89 13 = nI n) (h8 : f 89 8 = nI L) (h9 : f 89 9 = nI g) {a : Int32} : RI G mX9_loses 7 kn [.ref (G.1 + 85), .int a] f (fun v g2 => v = R_loses f n L g a ∧ agF f g2) := by
  refine Ct.of [some (.ref (G.1 + 85)), some (.int a)] rfl (by decide +kernel) rfl (Nat.le_of_ble_eq_true rfl) rfl ?_
  intro X C
  refine r_aload_n (pc := 0) C dX9_loses_0 rfl ?_
  refine r_iload_n (pc := 1) C dX9_loses_1 rfl ?_
  refine q_vIf (pc := 2) C kX9_197 dX9_loses_2 (c_X9_isWalker hn h13) (s_85 _) rfl rfl (Nat.le_of_ble_eq_true rfl) (by decide) ⟨by decide, by decide⟩ ?_
  refine r_if_ne (pc := 5) C 11 dX9_loses_5 (by decide) (fun c5 => ?_) (fun c5 => ?_)
  · replace c5 := b1_1 c5
    obtain ⟨i, hi, rfl⟩ := inR_of c5
    have ti : tn (nI i) = i := tn_nI (by omega)
    refine r_aload_n (pc := 11) C dX9_loses_11 rfl ?_
    refine r_iconst (pc := 12) C (3) dX9_loses_12 (by decide) ?_
    refine r_iconst (pc := 13) C (0) dX9_loses_13 (by decide) ?_
    refine r_iconst (pc := 14) C (1) dX9_loses_14 (by decide) ?_
    refine q_vV (pc := 15) C kX9_215 dX9_loses_15 (c_X9_findThen (fr := true) hn hL hg h13 h8 h9) (s_85 _) rfl rfl (Nat.le_of_ble_eq_true rfl) (by decide) ⟨by decide, by decide⟩ ?_
    intro f15 h15
    obtain ⟨a15, p15, q15, r15⟩ := h15
    refine r_aload_n (pc := 18) C dX9_loses_18 rfl ?_
    refine r_aload_n (pc := 19) C dX9_loses_19 rfl ?_
    refine r_getr (pc := 20) C fX9_19 dX9_loses_20 (s_85 _) rfl rfl ?_
    refine r_bipush (pc := 23) C (10) dX9_loses_23 (by decide) ?_
    refine q_iald (pc := 25) C 10 dX9_loses_25 (s_89 _) (sn_89 _) rfl (by omega) (by decide) ?_
    rw [a15.st]
    refine r_aload_n (pc := 26) C dX9_loses_26 rfl ?_
    refine r_getr (pc := 27) C fX9_19 dX9_loses_27 (s_85 _) rfl rfl ?_
    refine r_bipush (pc := 30) C (11) dX9_loses_30 (by decide) ?_
    refine q_iald (pc := 32) C 11 dX9_loses_32 (s_89 _) (sn_89 _) rfl (by omega) (by decide) ?_
    rw [a15.st]
    refine r_iconst (pc := 33) C (0) dX9_loses_33 (by decide) ?_
    refine q_vV (pc := 34) C kX9_215 dX9_loses_34 (c_X9_findThen (fr := false) hn hL hg (by rw [a15.st]; exact h13) (by rw [a15.st]; exact h8) (by rw [a15.st]; exact h9)) (s_85 _) rfl rfl (Nat.le_of_ble_eq_true rfl) (by decide) ⟨by decide, by decide⟩ ?_
    intro f34 h34
    obtain ⟨a34, p34, q34, r34⟩ := h34
    refine r_aload_n (pc := 37) C dX9_loses_37 rfl ?_
    refine r_getr (pc := 38) C fX9_40 dX9_loses_38 (s_85 _) rfl rfl ?_
    refine r_iload_n (pc := 41) C dX9_loses_41 rfl ?_
    refine q_iald (pc := 42) C i dX9_loses_42 (s_96 _) (sn_96 _) rfl (by omega) (by decide) ?_
    refine q_val _ (p34 i hi) ?_
    rw [a15.st]
    refine r_aload_n (pc := 43) C dX9_loses_43 rfl ?_
    refine r_getr (pc := 44) C fX9_37 dX9_loses_44 (s_85 _) rfl rfl ?_
    refine r_iload_n (pc := 47) C dX9_loses_47 rfl ?_
    refine q_iald (pc := 48) C i dX9_loses_48 (s_95 _) (sn_95 _) rfl (by omega) (by decide) ?_
    refine q_val _ ((r34 rfl i).trans (q15 rfl i hi)) ?_
    refine r_isub (pc := 49) C dX9_loses_49 ?_
    refine q_iret (pc := 50) C dX9_loses_50 rfl ?_
    exact ⟨by simp [R_loses, c5, ti], a15.tr a34⟩
  · replace c5 := b1_0 c5
    refine r_ldc (pc := 8) C (-1000001) kX9_76 dX9_loses_8 ?_
    refine q_iret (pc := 10) C dX9_loses_10 rfl ?_
    exact ⟨by simp [R_loses, c5], agF.rf⟩
def faI (v : Nat → Int32) : Nat → Option Nat × Int32
  | 0 => (none, 0)
  | k + 1 => match (faI v k).1 with
    | none => (some k, v k)
    | some b => if (faI v k).2 ≤ v k then (some b, (faI v k).2) else (some k, v k)
theorem faI_lt {v : Nat → Int32} : ∀ {k b : Nat}, (faI v k).1 = some b → b < k := by
  intro k
  induction k with
  | zero => intro b h; cases h
  | succ k ih =>
    intro b h
    unfold faI at h
    cases hk : (faI v k).1 with
    | none => rw [hk] at h; cases h; omega
    | some c =>
      rw [hk] at h
      dsimp only at h
      have := ih hk
      split at h
      · cases h; omega
      · cases h; omega
/-- the greatest loss, of the first k + 1 -/
def moI (t u : Nat → Int32) : Nat → Int32
  | 0 => t 0 - u 0
  | k + 1 => if t (k + 1) - u (k + 1) ≤ moI t u k then moI t u k else t (k + 1) - u (k + 1)
theorem moI_congr {t u t' u' : Nat → Int32} : ∀ k, (∀ w, w ≤ k → t w = t' w ∧ u w = u' w) → moI t u k = moI t' u' k := by
  intro k
  induction k with
  | zero => intro h; simp [moI, (h 0 (by omega)).1, (h 0 (by omega)).2]
  | succ k ih =>
    intro h
    simp only [moI]
    rw [ih (fun w hw => h w (by omega)), (h (k + 1) (by omega)).1, (h (k + 1) (by omega)).2]
def faV (n L g : Nat) (st : Nat → Int32) : Nat → Int32 := fun k => moI (fun w => hutV n L g st (nI (k / 31)) (nI (k % 31)) (38 + w)) (fun w => hutV n L g st 3 0 (38 + w)) (n - 1)
def R_fair (f : MM) (n L g : Nat) (q : Int32) : Int32 := if f 85 4 = 0 then -1000002 else if inR q 3 = true then if n = 0 then -1000000 else (fun s => if q = 0 then oI s.1 / 31 else if q = 1 then oI s.1 - oI s.1 / 31 * 31 else s.2) (faI (faV n L g (f 89)) n124) else -1000001
set_option maxRecDepth 100000 in
set_option maxHeartbeats 4000000 in
theorem l_fair1 {X : XT} {G : GG} {kn : Nat} {Q : State → Prop} {f : MM} {n : Nat} {a x2 x3 x4 : Int32} (C : Cx X G mX9_fair 7 0 0 (NN kn)) (hn : n ≤ 6) (h13 : f 89 13 = nI n) (K : Vw X G mX9_fair.2.2.2.1 0 0 Q (NN kn) (shF kn) f 152 [some (.ref (G.1 + 85)), some (.int a), some (.int x2), some (.int x3), some (.int x4), some (.int (moI (f 96) (f 95) (n - 1))), some (.int (nI n))] []) : ∀ (m i : Nat), 1 ≤ i → i + m = n → Vw X G mX9_fair.2.2.2.1 0 0 Q (NN kn) (shF kn) f 92 [some (.ref (G.1 + 85)), some (.int a), some (.int x2), some (.int x3), some (.int x4), some (.int (moI (f 96) (f 95) (i - 1))), some (.int (nI i))] [] := by
  intro m
  induction m with
  | zero =>
    intro i h1 hm
    obtain rfl : n = i := by omega
    refine r_iload (pc := 92) C dX9_fair_92 rfl ?_
    refine r_aload_n (pc := 94) C dX9_fair_94 rfl ?_
    refine r_getr (pc := 95) C fX9_19 dX9_fair_95 (s_85 _) rfl rfl ?_
    refine r_bipush (pc := 98) C (13) dX9_fair_98 (by decide) ?_
    refine q_iald (pc := 100) C 13 dX9_fair_100 (s_89 _) (sn_89 _) rfl (by omega) (by decide) ?_
    refine q_ge (pc := 101) C n n 152 rfl h13 (by omega) (by omega) dX9_fair_101 (by decide) (fun c101 => ?_) (fun c101 => ?_)
    · exact K
    · exact absurd c101 (by omega)
  | succ m ih =>
    intro i h1 hm
    obtain ⟨k, rfl⟩ : ∃ k, i = k + 1 := ⟨i - 1, by omega⟩
    have es : moI (f 96) (f 95) (k + 1) = if f 96 (k + 1) - f 95 (k + 1) ≤ moI (f 96) (f 95) k then moI (f 96) (f 95) k else f 96 (k + 1) - f 95 (k + 1) := rfl
    refine r_iload (pc := 92) C dX9_fair_92 rfl ?_
    refine r_aload_n (pc := 94) C dX9_fair_94 rfl ?_
    refine r_getr (pc := 95) C fX9_19 dX9_fair_95 (s_85 _) rfl rfl ?_
    refine r_bipush (pc := 98) C (13) dX9_fair_98 (by decide) ?_
    refine q_iald (pc := 100) C 13 dX9_fair_100 (s_89 _) (sn_89 _) rfl (by omega) (by decide) ?_
    refine q_ge (pc := 101) C (k + 1) n 152 rfl h13 (by omega) (by omega) dX9_fair_101 (by decide) (fun c101 => ?_) (fun c101 => ?_)
    · exact absurd c101 (by omega)
    · refine r_aload_n (pc := 104) C dX9_fair_104 rfl ?_
      refine r_getr (pc := 105) C fX9_40 dX9_fair_105 (s_85 _) rfl rfl ?_
      refine r_iload (pc := 108) C dX9_fair_108 rfl ?_
      refine q_iald (pc := 110) C (k + 1) dX9_fair_110 (s_96 _) (sn_96 _) rfl (by omega) (by decide) ?_
      refine r_aload_n (pc := 111) C dX9_fair_111 rfl ?_
      refine r_getr (pc := 112) C fX9_37 dX9_fair_112 (s_85 _) rfl rfl ?_
      refine r_iload (pc := 115) C dX9_fair_115 rfl ?_
      refine q_iald (pc := 117) C (k + 1) dX9_fair_117 (s_95 _) (sn_95 _) rfl (by omega) (by decide) ?_
      refine r_isub (pc := 118) C dX9_fair_118 ?_
      refine r_iload (pc := 119) C dX9_fair_119 rfl ?_
      refine r_icmp_le (pc := 121) C 142 dX9_fair_121 (by decide) (fun c121 => ?_) (fun c121 => ?_)
      · refine r_iload (pc := 142) C dX9_fair_142 rfl ?_
        refine r_istore (pc := 144) C dX9_fair_144 (by decide) rfl ?_
        refine r_iinc (pc := 146) C (nI (k + 1 + 1)) dX9_fair_146 rfl (nI_inc _) (by decide) rfl ?_
        refine r_goto (pc := 149) C 92 dX9_fair_149 (by decide) ?_
        have h := ih (k + 1 + 1) (by omega) (by omega)
        rw [show k + 1 + 1 - 1 = k + 1 from rfl, es] at h
        rw [if_pos (show f 96 (k + 1) - f 95 (k + 1) ≤ moI (f 96) (f 95) k from c121)] at h
        exact h
      · refine r_aload_n (pc := 124) C dX9_fair_124 rfl ?_
        refine r_getr (pc := 125) C fX9_40 dX9_fair_125 (s_85 _) rfl rfl ?_
        refine r_iload (pc := 128) C dX9_fair_128 rfl ?_
        refine q_iald (pc := 130) C (k + 1) dX9_fair_130 (s_96 _) (sn_96 _) rfl (by omega) (by decide) ?_
        refine r_aload_n (pc := 131) C dX9_fair_131 rfl ?_
        refine r_getr (pc := 132) C fX9_37 dX9_fair_132 (s_85 _) rfl rfl ?_
        refine r_iload (pc := 135) C dX9_fair_135 rfl ?_
        refine q_iald (pc := 137) C (k + 1) dX9_fair_137 (s_95 _) (sn_95 _) rfl (by omega) (by decide) ?_
        refine r_isub (pc := 138) C dX9_fair_138 ?_
        refine r_goto (pc := 139) C 144 dX9_fair_139 (by decide) ?_
        refine r_istore (pc := 144) C dX9_fair_144 (by decide) rfl ?_
        refine r_iinc (pc := 146) C (nI (k + 1 + 1)) dX9_fair_146 rfl (nI_inc _) (by decide) rfl ?_
        refine r_goto (pc := 149) C 92 dX9_fair_149 (by decide) ?_
        have h := ih (k + 1 + 1) (by omega) (by omega)
        rw [show k + 1 + 1 - 1 = k + 1 from rfl, es] at h
        rw [if_neg (show ¬ f 96 (k + 1) - f 95 (k + 1) ≤ moI (f 96) (f 95) k from c121)] at h
        exact h
set_option maxRecDepth 100000 in
set_option maxHeartbeats 4000000 in
theorem l_fair2 {X : XT} {G : GG} {kn : Nat} {Q : State → Prop} {f : MM} {n L g : Nat} {a : Int32} (C : Cx X G mX9_fair 7 0 0 (NN kn)) (hn : n ≤ 6) (hn1 : 1 ≤ n) (hL : L ≤ 8) (hg : g ≤ L) (h13 : f 89 13 = nI n) (h8 : f 89 8 = nI L) (h9 : f 89 9 = nI g) (K : ∀ g2 : MM, agF f g2 → Vw X G mX9_fair.2.2.2.1 0 0 Q (NN kn) (shF kn) g2 188 [some (.ref (G.1 + 85)), some (.int a), some (.int (oI (faI (faV n L g (f 89)) n124).1)), some (.int (faI (faV n L g (f 89)) n124).2), some (.int (nI n124)), none, none] []) : ∀ (m i : Nat) (g2 : MM), i + m = n124 → agF f g2 → (∀ w, w < n → g2 95 w = hutV n L g (f 89) 3 0 (38 + w)) → Vw X G mX9_fair.2.2.2.1 0 0 Q (NN kn) (shF kn) g2 52 [some (.ref (G.1 + 85)), some (.int a), some (.int (oI (faI (faV n L g (f 89)) i).1)), some (.int (faI (faV n L g (f 89)) i).2), some (.int (nI i)), none, none] [] := by
  have hN := n124_eq
  intro m
  induction m with
  | zero =>
    intro i g2 hm hg2 hfr
    obtain rfl : n124 = i := by omega
    refine r_iload (pc := 52) C dX9_fair_52 rfl ?_
    refine r_bipush (pc := 54) C (124) dX9_fair_54 (by decide) ?_
    refine q_ge (pc := 56) C n124 124 188 rfl rfl (by omega) (by omega) dX9_fair_56 (by decide) (fun c56 => ?_) (fun c56 => ?_)
    · exact K _ hg2
    · exact absurd c56 (by omega)
  | succ m ih =>
    intro i g2 hm hg2 hfr
    refine r_iload (pc := 52) C dX9_fair_52 rfl ?_
    refine r_bipush (pc := 54) C (124) dX9_fair_54 (by decide) ?_
    refine q_ge (pc := 56) C i 124 188 rfl rfl (by omega) (by omega) dX9_fair_56 (by decide) (fun c56 => ?_) (fun c56 => ?_)
    · exact absurd c56 (by omega)
    · refine r_aload_n (pc := 59) C dX9_fair_59 rfl ?_
      refine r_iload (pc := 60) C dX9_fair_60 rfl ?_
      refine r_bipush (pc := 62) C (31) dX9_fair_62 (by decide) ?_
      refine r_idiv (pc := 64) C dX9_fair_64 (by decide) ?_
      refine q_is (i / 31) (div31 (by omega)) ?_
      refine r_iload (pc := 65) C dX9_fair_65 rfl ?_
      refine r_bipush (pc := 67) C (31) dX9_fair_67 (by decide) ?_
      refine r_irem (pc := 69) C dX9_fair_69 (by decide) ?_
      refine q_is (i % 31) (rem31 (by omega)) ?_
      refine r_iconst (pc := 70) C (0) dX9_fair_70 (by decide) ?_
      refine q_vV (pc := 71) C kX9_215 dX9_fair_71 (c_X9_findThen (fr := false) hn hL hg (by rw [hg2.st]; exact h13) (by rw [hg2.st]; exact h8) (by rw [hg2.st]; exact h9)) (s_85 _) rfl rfl (Nat.le_of_ble_eq_true rfl) (by decide) ⟨by decide, by decide⟩ ?_
      intro f71 h71
      obtain ⟨a71, p71, q71, r71⟩ := h71
      rw [hg2.st] at p71
      have hag := hg2.tr a71
      have hfr2 : ∀ w, w < n → f71 95 w = hutV n L g (f 89) 3 0 (38 + w) := fun w hw => (r71 rfl w).trans (hfr w hw)
      have ev : moI (f71 96) (f71 95) (n - 1) = faV n L g (f 89) i := moI_congr _ (fun w hw => ⟨p71 w (by omega), hfr2 w (by omega)⟩)
      refine r_aload_n (pc := 74) C dX9_fair_74 rfl ?_
      refine r_getr (pc := 75) C fX9_40 dX9_fair_75 (s_85 _) rfl rfl ?_
      refine r_iconst (pc := 78) C (0) dX9_fair_78 (by decide) ?_
      refine q_iald (pc := 79) C 0 dX9_fair_79 (s_96 _) (sn_96 _) rfl (by omega) (by decide) ?_
      refine r_aload_n (pc := 80) C dX9_fair_80 rfl ?_
      refine r_getr (pc := 81) C fX9_37 dX9_fair_81 (s_85 _) rfl rfl ?_
      refine r_iconst (pc := 84) C (0) dX9_fair_84 (by decide) ?_
      refine q_iald (pc := 85) C 0 dX9_fair_85 (s_95 _) (sn_95 _) rfl (by omega) (by decide) ?_
      refine r_isub (pc := 86) C dX9_fair_86 ?_
      refine r_istore (pc := 87) C dX9_fair_87 (by decide) rfl ?_
      refine r_iconst (pc := 89) C (1) dX9_fair_89 (by decide) ?_
      refine r_istore (pc := 90) C dX9_fair_90 (by decide) rfl ?_
      refine l_fair1 (n := n) C hn (by rw [hag.st]; exact h13) ?_ (n - 1) 1 (by omega) (by omega)
      rw [ev]
      cases ho : (faI (faV n L g (f 89)) i).1 with
      | none =>
        refine r_iload_n (pc := 152) C dX9_fair_152 rfl ?_
        refine r_if_lt (pc := 153) C 162 dX9_fair_153 (by decide) (fun c153 => ?_) (fun c153 => ?_)
        · refine r_iload (pc := 162) C dX9_fair_162 rfl ?_
          refine r_goto (pc := 164) C 168 dX9_fair_164 (by decide) ?_
          refine r_istore_n (pc := 168) C dX9_fair_168 (by decide) rfl ?_
          refine r_iload_n (pc := 169) C dX9_fair_169 rfl ?_
          refine r_iload (pc := 170) C dX9_fair_170 rfl ?_
          refine q_ne (pc := 172) C i i 180 rfl rfl (by omega) (by omega) dX9_fair_172 (by decide) (fun c172 => ?_) (fun c172 => ?_)
          · exact absurd rfl c172
          · refine r_iload (pc := 175) C dX9_fair_175 rfl ?_
            refine r_goto (pc := 177) C 181 dX9_fair_177 (by decide) ?_
            refine r_istore_n (pc := 181) C dX9_fair_181 (by decide) rfl ?_
            refine r_iinc (pc := 182) C (nI (i + 1)) dX9_fair_182 rfl (nI_inc _) (by decide) rfl ?_
            refine r_goto (pc := 185) C 52 dX9_fair_185 (by decide) ?_
            have e1 : faI (faV n L g (f 89)) (i + 1) = (some i, faV n L g (f 89) i) := by rw [faI, ho]
            have h := ih (i + 1) f71 (by omega) hag hfr2
            rw [e1] at h
            exact v_drop _ (by repeat (first | exact trivial | exact rfl | constructor)) h
        · exact absurd c153 (by decide)
      | some b =>
        have hb := faI_lt ho
        refine r_iload_n (pc := 152) C dX9_fair_152 rfl ?_
        refine r_if_lt (pc := 153) C 162 dX9_fair_153 (by decide) (fun c153 => ?_) (fun c153 => ?_)
        · exact absurd c153 (nI_pos (by omega))
        · refine r_iload (pc := 156) C dX9_fair_156 rfl ?_
          refine r_iload_n (pc := 158) C dX9_fair_158 rfl ?_
          refine r_icmp_ge (pc := 159) C 167 dX9_fair_159 (by decide) (fun c159 => ?_) (fun c159 => ?_)
          · refine r_iload_n (pc := 167) C dX9_fair_167 rfl ?_
            refine r_istore_n (pc := 168) C dX9_fair_168 (by decide) rfl ?_
            refine r_iload_n (pc := 169) C dX9_fair_169 rfl ?_
            refine r_iload (pc := 170) C dX9_fair_170 rfl ?_
            refine q_ne (pc := 172) C b i 180 rfl rfl (by omega) (by omega) dX9_fair_172 (by decide) (fun c172 => ?_) (fun c172 => ?_)
            · refine r_iload_n (pc := 180) C dX9_fair_180 rfl ?_
              refine r_istore_n (pc := 181) C dX9_fair_181 (by decide) rfl ?_
              refine r_iinc (pc := 182) C (nI (i + 1)) dX9_fair_182 rfl (nI_inc _) (by decide) rfl ?_
              refine r_goto (pc := 185) C 52 dX9_fair_185 (by decide) ?_
              have e1 : faI (faV n L g (f 89)) (i + 1) = (some b, (faI (faV n L g (f 89)) i).2) := by rw [faI, ho]; dsimp only; rw [if_pos c159]
              have h := ih (i + 1) f71 (by omega) hag hfr2
              rw [e1] at h
              exact v_drop _ (by repeat (first | exact trivial | exact rfl | constructor)) h
            · exact absurd c172 (by omega)
          · refine r_iload (pc := 162) C dX9_fair_162 rfl ?_
            refine r_goto (pc := 164) C 168 dX9_fair_164 (by decide) ?_
            refine r_istore_n (pc := 168) C dX9_fair_168 (by decide) rfl ?_
            refine r_iload_n (pc := 169) C dX9_fair_169 rfl ?_
            refine r_iload (pc := 170) C dX9_fair_170 rfl ?_
            refine q_ne (pc := 172) C i i 180 rfl rfl (by omega) (by omega) dX9_fair_172 (by decide) (fun c172 => ?_) (fun c172 => ?_)
            · exact absurd rfl c172
            · refine r_iload (pc := 175) C dX9_fair_175 rfl ?_
              refine r_goto (pc := 177) C 181 dX9_fair_177 (by decide) ?_
              refine r_istore_n (pc := 181) C dX9_fair_181 (by decide) rfl ?_
              refine r_iinc (pc := 182) C (nI (i + 1)) dX9_fair_182 rfl (nI_inc _) (by decide) rfl ?_
              refine r_goto (pc := 185) C 52 dX9_fair_185 (by decide) ?_
              have e1 : faI (faV n L g (f 89)) (i + 1) = (some i, faV n L g (f 89) i) := by rw [faI, ho]; dsimp only; rw [if_neg c159]
              have h := ih (i + 1) f71 (by omega) hag hfr2
              rw [e1] at h
              exact v_drop _ (by repeat (first | exact trivial | exact rfl | constructor)) h
set_option maxRecDepth 100000 in
set_option maxHeartbeats 4000000 in
theorem c_X9_fair {G : GG} {kn : Nat} {f : MM} {n L g : Nat} (hn : n ≤ 6) (hL : L ≤ 8) (hg : g ≤ L) (h13 : f 89 13 = nI n) (h8 : f 89 8 = nI L) (h9 : f 89 9 = nI g) {a : Int32} : RI G mX9_fair 7 kn [.ref (G.1 + 85), .int a] f (fun v g2 => v = R_fair f n L g a ∧ agF f g2) := by
  refine Ct.of [some (.ref (G.1 + 85)), some (.int a), none, none, none, none, none] rfl (by decide +kernel) rfl (Nat.le_of_ble_eq_true rfl) rfl ?_
  intro X C
  refine r_aload_n (pc := 0) C dX9_fair_0 rfl ?_
  refine r_get (pc := 1) C fX9_154 dX9_fair_1 (s_85 _) rfl ?_
  refine r_if_ne (pc := 4) C 10 dX9_fair_4 (by decide) (fun c4 => ?_) (fun c4 => ?_)
  · refine r_iload_n (pc := 10) C dX9_fair_10 rfl ?_
    refine r_i2l (pc := 11) C dX9_fair_11 ?_
    refine r_lconst (pc := 12) C (0) dX9_fair_12 (by decide) ?_
    refine r_ldc2 (pc := 13) C (2) kX9_74 dX9_fair_13 ?_
    refine q_sIf (pc := 16) C kX9_66 dX9_fair_16 (c_in0 (hi := 2) 3 rfl (by decide) (by decide)) rfl rfl (Nat.le_of_ble_eq_true rfl) (by decide) ⟨by decide, by decide⟩ ?_
    refine r_if_ne (pc := 19) C 25 dX9_fair_19 (by decide) (fun c19 => ?_) (fun c19 => ?_)
    · replace c19 := b1_1 c19
      refine r_aload_n (pc := 25) C dX9_fair_25 rfl ?_
      refine r_getr (pc := 26) C fX9_19 dX9_fair_26 (s_85 _) rfl rfl ?_
      refine r_bipush (pc := 29) C (13) dX9_fair_29 (by decide) ?_
      refine q_iald (pc := 31) C 13 dX9_fair_31 (s_89 _) (sn_89 _) rfl (by omega) (by decide) ?_
      refine r_if_ne (pc := 32) C 38 dX9_fair_32 (by decide) (fun c32 => ?_) (fun c32 => ?_)
      · have n0 : ¬ n = 0 := fun q => c32 (by rw [h13, q]; rfl)
        refine r_aload_n (pc := 38) C dX9_fair_38 rfl ?_
        refine r_iconst (pc := 39) C (3) dX9_fair_39 (by decide) ?_
        refine r_iconst (pc := 40) C (0) dX9_fair_40 (by decide) ?_
        refine r_iconst (pc := 41) C (1) dX9_fair_41 (by decide) ?_
        refine q_vV (pc := 42) C kX9_215 dX9_fair_42 (c_X9_findThen (fr := true) hn hL hg h13 h8 h9) (s_85 _) rfl rfl (Nat.le_of_ble_eq_true rfl) (by decide) ⟨by decide, by decide⟩ ?_
        intro f42 h42
        obtain ⟨a42, p42, q42, r42⟩ := h42
        refine r_iconst (pc := 45) C (-1) dX9_fair_45 (by decide) ?_
        refine r_istore_n (pc := 46) C dX9_fair_46 (by decide) rfl ?_
        refine r_iconst (pc := 47) C (0) dX9_fair_47 (by decide) ?_
        refine r_istore_n (pc := 48) C dX9_fair_48 (by decide) rfl ?_
        refine r_iconst (pc := 49) C (0) dX9_fair_49 (by decide) ?_
        refine r_istore (pc := 50) C dX9_fair_50 (by decide) rfl ?_
        refine v_drop _ (by repeat (first | exact trivial | exact rfl | constructor)) (l_fair2 C hn (by omega) hL hg h13 h8 h9 (fun g2 hg2 => ?_) n124 0 _ (Nat.zero_add _) a42 (q42 rfl))
        refine r_iload_n (pc := 188) C dX9_fair_188 rfl ?_
        refine r_if_ne (pc := 189) C 199 dX9_fair_189 (by decide) (fun c189 => ?_) (fun c189 => ?_)
        · refine r_iload_n (pc := 199) C dX9_fair_199 rfl ?_
          refine r_iconst (pc := 200) C (1) dX9_fair_200 (by decide) ?_
          refine r_icmp_ne (pc := 201) C 211 dX9_fair_201 (by decide) (fun c201 => ?_) (fun c201 => ?_)
          · refine r_iload_n (pc := 211) C dX9_fair_211 rfl ?_
            refine q_iret (pc := 212) C dX9_fair_212 rfl ?_
            exact ⟨by rw [R_fair, if_neg c4, if_pos c19, if_neg n0]; simp [c189, c201], hg2⟩
          · refine r_iload_n (pc := 204) C dX9_fair_204 rfl ?_
            refine r_bipush (pc := 205) C (31) dX9_fair_205 (by decide) ?_
            refine r_irem (pc := 207) C dX9_fair_207 (by decide) ?_
            refine r_goto (pc := 208) C 212 dX9_fair_208 (by decide) ?_
            refine q_iret (pc := 212) C dX9_fair_212 rfl ?_
            exact ⟨by rw [R_fair, if_neg c4, if_pos c19, if_neg n0]; simp [c189, c201], hg2⟩
        · refine r_iload_n (pc := 192) C dX9_fair_192 rfl ?_
          refine r_bipush (pc := 193) C (31) dX9_fair_193 (by decide) ?_
          refine r_idiv (pc := 195) C dX9_fair_195 (by decide) ?_
          refine r_goto (pc := 196) C 212 dX9_fair_196 (by decide) ?_
          refine q_iret (pc := 212) C dX9_fair_212 rfl ?_
          exact ⟨by rw [R_fair, if_neg c4, if_pos c19, if_neg n0]; simp [c189], hg2⟩
      · have n0 : n = 0 := (nI_eq (by omega) (by decide)).mp (h13.symm.trans c32)
        refine r_ldc (pc := 35) C (-1000000) kX9_200 dX9_fair_35 ?_
        refine q_iret (pc := 37) C dX9_fair_37 rfl ?_
        exact ⟨by simp [R_fair, c4, c19, n0], agF.rf⟩
    · replace c19 := b1_0 c19
      refine r_ldc (pc := 22) C (-1000001) kX9_76 dX9_fair_22 ?_
      refine q_iret (pc := 24) C dX9_fair_24 rfl ?_
      exact ⟨by simp [R_fair, c4, c19], agF.rf⟩
  · refine r_ldc (pc := 7) C (-1000002) kX9_183 dX9_fair_7 ?_
    refine q_iret (pc := 9) C dX9_fair_9 rfl ?_
    exact ⟨by simp [R_fair, c4], agF.rf⟩
def R_image (f : MM) (k : Int32) : Int32 × MM := if inR k 2 = true then if f 85 4 = 0 then (-1000002, f) else (1, u2 (fillM f 100 (56 * tn k) 56 (f 89)) 99 (tn k) 1) else (-1000001, f)
def R_restore (f : MM) (k : Int32) : Int32 × MM := if inR k 2 = true then if f 99 (tn k) = 0 then (-1000002, f) else (1, u2 (fillM f 89 0 56 (fun t => f 100 (56 * tn k + t))) 85 18 0) else (-1000001, f)
section ZA
variable {X : XT} {G : GG} {M : MD} {lv mc ms N0 : Nat} {cs sl : Nat} {Q : State → Prop} {N : Nat} {sh : SH} {f : MM} {pc : Nat} {ls : List (Option Value)} {st : List Value}
theorem q_zald (C : Cx X G M lv mc ms N0) {k len : Nat} {x : Int32} (n : Nat) (hd : decode M.2.2.1 pc = .ok (.baload, 1)) (hk : k < N ∧ (sh k).1 = 11) (hn : (sh k).2.1 = len) (hx : x = nI n) (hl : n < len) (hb : len ≤ 2000) (K : Vw X G M.2.2.2.1 cs sl Q N sh f (pc + 1) ls (.int (f k n) :: st)) : Vw X G M.2.2.2.1 cs sl Q N sh f pc ls (.int x :: .ref (G.1 + k) :: st) := by
  subst hx
  refine r_zald C hd hk hn (vp_in_nI hl (by omega)) ?_
  rw [nI_clamp (by omega)]
  exact K
theorem q_zast (C : Cx X G M lv mc ms N0) {k len : Nat} {x v : Int32} (n : Nat) (hd : decode M.2.2.1 pc = .ok (.bastore, 1)) (hk : k < N ∧ (sh k).1 = 11) (hn : (sh k).2.1 = len) (hx : x = nI n) (hl : n < len) (hb : len ≤ 2000) (hv : v = 0 ∨ v = 1) (hcs : N = N0 ∧ cs = 0) (K : Vw X G M.2.2.2.1 cs sl Q N sh (u2 f k n v) (pc + 1) ls st) : Vw X G M.2.2.2.1 cs sl Q N sh f pc ls (.int v :: .int x :: .ref (G.1 + k) :: st) := by
  subst hx
  refine r_zast C hd hk hn (vp_in_nI hl (by omega)) hv hcs ?_
  rw [nI_clamp (by omega)]
  exact K
end ZA
set_option maxRecDepth 100000 in
set_option maxHeartbeats 4000000 in
theorem l_image {X : XT} {G : GG} {kn : Nat} {Q : State → Prop} {f : MM} {k : Nat} (C : Cx X G mX9_image 2 0 0 (NN kn)) (hk : k < 2) (K : ∀ g : MM, (fun i g => g = fillM f 100 (56 * k) i (f 89)) 56 g → Vw X G mX9_image.2.2.2.1 0 0 Q (NN kn) (shF kn) g 54 [some (.ref (G.1 + 85)), some (.int (nI k)), some (.int (nI 56))] []) : ∀ (m i : Nat) (g : MM), i + m = 56 → (fun i g => g = fillM f 100 (56 * k) i (f 89)) i g → Vw X G mX9_image.2.2.2.1 0 0 Q (NN kn) (shF kn) g 25 [some (.ref (G.1 + 85)), some (.int (nI k)), some (.int (nI i))] [] := by
  intro m
  induction m with
  | zero =>
    intro i g hm hg
    obtain rfl : 56 = i := by omega
    subst hg
    refine r_iload_n (pc := 25) C dX9_image_25 rfl ?_
    refine r_bipush (pc := 26) C (56) dX9_image_26 (by decide) ?_
    refine q_ge (pc := 28) C 56 56 54 rfl rfl (by omega) (by omega) dX9_image_28 (by decide) (fun c28 => ?_) (fun c28 => ?_)
    · exact K _ rfl
    · exact absurd c28 (by omega)
  | succ m ih =>
    intro i g hm hg
    subst hg
    refine r_iload_n (pc := 25) C dX9_image_25 rfl ?_
    refine r_bipush (pc := 26) C (56) dX9_image_26 (by decide) ?_
    refine q_ge (pc := 28) C i 56 54 rfl rfl (by omega) (by omega) dX9_image_28 (by decide) (fun c28 => ?_) (fun c28 => ?_)
    · exact absurd c28 (by omega)
    · refine r_aload_n (pc := 31) C dX9_image_31 rfl ?_
      refine r_getr (pc := 32) C fX9_53 dX9_image_32 (s_85 _) rfl rfl ?_
      refine r_bipush (pc := 35) C (56) dX9_image_35 (by decide) ?_
      refine r_iload_n (pc := 37) C dX9_image_37 rfl ?_
      refine r_imul (pc := 38) C dX9_image_38 ?_
      refine r_iload_n (pc := 39) C dX9_image_39 rfl ?_
      refine r_iadd (pc := 40) C dX9_image_40 ?_
      refine r_aload_n (pc := 41) C dX9_image_41 rfl ?_
      refine r_getr (pc := 42) C fX9_19 dX9_image_42 (s_85 _) rfl rfl ?_
      refine r_iload_n (pc := 45) C dX9_image_45 rfl ?_
      refine q_iald (pc := 46) C i dX9_image_46 (s_89 _) (sn_89 _) rfl (by omega) (by decide) ?_
      refine q_iast (pc := 47) C ((56 * k) + i) dX9_image_47 (s_100 _) (sn_100 _) (nI_addE (pk_mul 56 k) rfl) (by omega) (by decide) ?_
      refine r_iinc (pc := 48) C (nI (i + 1)) dX9_image_48 rfl (nI_inc _) (by decide) rfl ?_
      refine r_goto (pc := 51) C 25 dX9_image_51 (by decide) ?_
      refine ih (i + 1) _ (by omega) ?_
      exact fillM_step (fillM_ne (by decide))
set_option maxRecDepth 100000 in
set_option maxHeartbeats 4000000 in
theorem l_restore {X : XT} {G : GG} {kn : Nat} {Q : State → Prop} {f : MM} {k : Nat} (C : Cx X G mX9_restore 2 0 0 (NN kn)) (hk : k < 2) (K : ∀ g : MM, (fun i g => g = fillM f 89 0 i (fun t => f 100 (56 * k + t))) 56 g → Vw X G mX9_restore.2.2.2.1 0 0 Q (NN kn) (shF kn) g 56 [some (.ref (G.1 + 85)), some (.int (nI k)), some (.int (nI 56))] []) : ∀ (m i : Nat) (g : MM), i + m = 56 → (fun i g => g = fillM f 89 0 i (fun t => f 100 (56 * k + t))) i g → Vw X G mX9_restore.2.2.2.1 0 0 Q (NN kn) (shF kn) g 27 [some (.ref (G.1 + 85)), some (.int (nI k)), some (.int (nI i))] [] := by
  intro m
  induction m with
  | zero =>
    intro i g hm hg
    obtain rfl : 56 = i := by omega
    subst hg
    refine r_iload_n (pc := 27) C dX9_restore_27 rfl ?_
    refine r_bipush (pc := 28) C (56) dX9_restore_28 (by decide) ?_
    refine q_ge (pc := 30) C 56 56 56 rfl rfl (by omega) (by omega) dX9_restore_30 (by decide) (fun c30 => ?_) (fun c30 => ?_)
    · exact K _ rfl
    · exact absurd c30 (by omega)
  | succ m ih =>
    intro i g hm hg
    subst hg
    refine r_iload_n (pc := 27) C dX9_restore_27 rfl ?_
    refine r_bipush (pc := 28) C (56) dX9_restore_28 (by decide) ?_
    refine q_ge (pc := 30) C i 56 56 rfl rfl (by omega) (by omega) dX9_restore_30 (by decide) (fun c30 => ?_) (fun c30 => ?_)
    · exact absurd c30 (by omega)
    · refine r_aload_n (pc := 33) C dX9_restore_33 rfl ?_
      refine r_getr (pc := 34) C fX9_19 dX9_restore_34 (s_85 _) rfl rfl ?_
      refine r_iload_n (pc := 37) C dX9_restore_37 rfl ?_
      refine r_aload_n (pc := 38) C dX9_restore_38 rfl ?_
      refine r_getr (pc := 39) C fX9_53 dX9_restore_39 (s_85 _) rfl rfl ?_
      refine r_bipush (pc := 42) C (56) dX9_restore_42 (by decide) ?_
      refine r_iload_n (pc := 44) C dX9_restore_44 rfl ?_
      refine r_imul (pc := 45) C dX9_restore_45 ?_
      refine r_iload_n (pc := 46) C dX9_restore_46 rfl ?_
      refine r_iadd (pc := 47) C dX9_restore_47 ?_
      refine q_iald (pc := 48) C ((56 * k) + i) dX9_restore_48 (s_100 _) (sn_100 _) (nI_addE (pk_mul 56 k) rfl) (by omega) (by decide) ?_
      refine q_iast (pc := 49) C i dX9_restore_49 (s_89 _) (sn_89 _) rfl (by omega) (by decide) ?_
      refine r_iinc (pc := 50) C (nI (i + 1)) dX9_restore_50 rfl (nI_inc _) (by decide) rfl ?_
      refine r_goto (pc := 53) C 27 dX9_restore_53 (by decide) ?_
      refine ih (i + 1) _ (by omega) ?_
      exact fillM_step0 (fillM_ne (by decide))
set_option maxRecDepth 100000 in
set_option maxHeartbeats 4000000 in
theorem c_X9_image {G : GG} {kn : Nat} {f : MM} {a : Int32} : CI G mX9_image 2 kn [.ref (G.1 + 85), .int a] f (R_image f a).1 (R_image f a).2 := by
  refine Ct.of [some (.ref (G.1 + 85)), some (.int a), none] rfl (by decide +kernel) rfl (Nat.le_of_ble_eq_true rfl) rfl ?_
  intro X C
  refine r_iload_n (pc := 0) C dX9_image_0 rfl ?_
  refine r_i2l (pc := 1) C dX9_image_1 ?_
  refine r_lconst (pc := 2) C (0) dX9_image_2 (by decide) ?_
  refine r_lconst (pc := 3) C (1) dX9_image_3 (by decide) ?_
  refine q_sIf (pc := 4) C kX9_66 dX9_image_4 (c_in0 (hi := 1) 2 rfl (by decide) (by decide)) rfl rfl (Nat.le_of_ble_eq_true rfl) (by decide) ⟨by decide, by decide⟩ ?_
  refine r_if_ne (pc := 7) C 13 dX9_image_7 (by decide) (fun c7 => ?_) (fun c7 => ?_)
  · replace c7 := b1_1 c7
    obtain ⟨k, hk, rfl⟩ := inR_of c7
    have tk : tn (nI k) = k := tn_nI (by omega)
    refine r_aload_n (pc := 13) C dX9_image_13 rfl ?_
    refine r_get (pc := 14) C fX9_154 dX9_image_14 (s_85 _) rfl ?_
    refine r_if_ne (pc := 17) C 23 dX9_image_17 (by decide) (fun c17 => ?_) (fun c17 => ?_)
    · refine r_iconst (pc := 23) C (0) dX9_image_23 (by decide) ?_
      refine r_istore_n (pc := 24) C dX9_image_24 (by decide) rfl ?_
      refine l_image (f := f) C hk ?_ 56 0 _ rfl fillM_0.symm
      intro g hg
      subst hg
      refine r_aload_n (pc := 54) C dX9_image_54 rfl ?_
      refine r_getr (pc := 55) C fX9_49 dX9_image_55 (s_85 _) rfl rfl ?_
      refine r_iload_n (pc := 58) C dX9_image_58 rfl ?_
      refine r_iconst (pc := 59) C (1) dX9_image_59 (by decide) ?_
      refine q_zast (pc := 60) C k dX9_image_60 (s_99 _) (sn_99 _) rfl (by omega) (by decide) (Or.inr rfl) ⟨rfl, rfl⟩ ?_
      refine r_iconst (pc := 61) C (1) dX9_image_61 (by decide) ?_
      refine q_iret (pc := 62) C dX9_image_62 rfl ?_
      exact pr (by simp [R_image, c7, tk, c17])
    · refine r_ldc (pc := 20) C (-1000002) kX9_183 dX9_image_20 ?_
      refine q_iret (pc := 22) C dX9_image_22 rfl ?_
      exact pr (by simp [R_image, c7, tk, c17])
  · replace c7 := b1_0 c7
    refine r_ldc (pc := 10) C (-1000001) kX9_76 dX9_image_10 ?_
    refine q_iret (pc := 12) C dX9_image_12 rfl ?_
    exact pr (by simp [R_image, c7])
set_option maxRecDepth 100000 in
set_option maxHeartbeats 4000000 in
theorem c_X9_restore {G : GG} {kn : Nat} {f : MM} {a : Int32} : CI G mX9_restore 2 kn [.ref (G.1 + 85), .int a] f (R_restore f a).1 (R_restore f a).2 := by
  refine Ct.of [some (.ref (G.1 + 85)), some (.int a), none] rfl (by decide +kernel) rfl (Nat.le_of_ble_eq_true rfl) rfl ?_
  intro X C
  refine r_iload_n (pc := 0) C dX9_restore_0 rfl ?_
  refine r_i2l (pc := 1) C dX9_restore_1 ?_
  refine r_lconst (pc := 2) C (0) dX9_restore_2 (by decide) ?_
  refine r_lconst (pc := 3) C (1) dX9_restore_3 (by decide) ?_
  refine q_sIf (pc := 4) C kX9_66 dX9_restore_4 (c_in0 (hi := 1) 2 rfl (by decide) (by decide)) rfl rfl (Nat.le_of_ble_eq_true rfl) (by decide) ⟨by decide, by decide⟩ ?_
  refine r_if_ne (pc := 7) C 13 dX9_restore_7 (by decide) (fun c7 => ?_) (fun c7 => ?_)
  · replace c7 := b1_1 c7
    obtain ⟨k, hk, rfl⟩ := inR_of c7
    have tk : tn (nI k) = k := tn_nI (by omega)
    refine r_aload_n (pc := 13) C dX9_restore_13 rfl ?_
    refine r_getr (pc := 14) C fX9_49 dX9_restore_14 (s_85 _) rfl rfl ?_
    refine r_iload_n (pc := 17) C dX9_restore_17 rfl ?_
    refine q_zald (pc := 18) C k dX9_restore_18 (s_99 _) (sn_99 _) rfl (by omega) (by decide) ?_
    refine r_if_ne (pc := 19) C 25 dX9_restore_19 (by decide) (fun c19 => ?_) (fun c19 => ?_)
    · refine r_iconst (pc := 25) C (0) dX9_restore_25 (by decide) ?_
      refine r_istore_n (pc := 26) C dX9_restore_26 (by decide) rfl ?_
      refine l_restore (f := f) C hk ?_ 56 0 _ rfl fillM_0.symm
      intro g hg
      subst hg
      refine r_aload_n (pc := 56) C dX9_restore_56 rfl ?_
      refine r_iconst (pc := 57) C (0) dX9_restore_57 (by decide) ?_
      refine r_put (pc := 58) C fX9_158 ftX9_18 dX9_restore_58 (s_85 _) rfl ?_
      refine r_iconst (pc := 61) C (1) dX9_restore_61 (by decide) ?_
      refine q_iret (pc := 62) C dX9_restore_62 rfl ?_
      exact pr (by simp [R_restore, c7, tk, c19])
    · refine r_ldc (pc := 22) C (-1000002) kX9_183 dX9_restore_22 ?_
      refine q_iret (pc := 24) C dX9_restore_24 rfl ?_
      exact pr (by simp [R_restore, c7, tk, c19])
  · replace c7 := b1_0 c7
    refine r_ldc (pc := 10) C (-1000001) kX9_76 dX9_restore_10 ?_
    refine q_iret (pc := 12) C dX9_restore_12 rfl ?_
    exact pr (by simp [R_restore, c7])
