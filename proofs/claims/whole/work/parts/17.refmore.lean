/-! THE REFERENCE: parties, turning back, fits -/
theorem allI_n : ∀ n, n ≤ 6 → allI n = nI (2 ^ n - 1) := by
  intro n hn
  have : n = 0 ∨ n = 1 ∨ n = 2 ∨ n = 3 ∨ n = 4 ∨ n = 5 ∨ n = 6 := by omega
  rcases this with rfl | rfl | rfl | rfl | rfl | rfl | rfl <;> decide +kernel
/-- how many sets without walker 0 -/
def cnt (n : Nat) : Nat := if n = 0 then 1 else 2 ^ (n - 1)
theorem cnt_le : ∀ n, n ≤ 6 → cnt n ≤ 32 ∧ ∀ j, (2 * j ≤ 2 ^ n - 1 ↔ j < cnt n) := by
  intro n hn
  have : n = 0 ∨ n = 1 ∨ n = 2 ∨ n = 3 ∨ n = 4 ∨ n = 5 ∨ n = 6 := by omega
  rcases this with rfl | rfl | rfl | rfl | rfl | rfl | rfl <;> refine ⟨by decide, fun j => ?_⟩ <;> simp [cnt] <;> omega
/-- walked by a set to the hut, and taken back -/
def hbM (n L g : Nat) (s : Int32) (m : MM) : MM := fillM (va_up (u2 m 85 16 s) 89 (hutI n L s (L - g) g (m 89))) 89 0 56 (va_up (u2 m 85 16 s) 89 (hutI n L s (L - g) g (m 89)) 94)
theorem hbM_89 {n L g : Nat} {s : Int32} {m : MM} (hn : n ≤ 6) (h : ∀ t, t < 56 → m 94 t = m 89 t) : hbM n L g s m 89 = m 89 := by
  funext t
  unfold hbM
  by_cases ht : t < 56
  · rw [fillM_in (by omega) (by omega), up_ne (by decide), u2_row (by decide)]
    exact h t ht
  · rw [fillM_out (by omega), up_at, hutI_hi (by omega) hn]
theorem hbM_ne {n L g : Nat} {s : Int32} {m : MM} {k b : Nat} (h : k ≠ 89) (h2 : ¬ (k = 85 ∧ b = 16)) : hbM n L g s m k b = m k b := by
  unfold hbM
  rw [fillM_ne h, up_ne h]
  simp only [u2]
  rw [if_neg h2]
def setV (n L g : Nat) (st : Nat → Int32) (s : Int32) : Int32 := lastI (hutI n L s (L - g) g st) s n
def coS (n j : Nat) : Int32 := allI n &&& (nI (2 * j) ^^^ (-1))
def paV (n L g : Nat) (st : Nat → Int32) : Nat → Int32 := fun j => if setV n L g st (nI (2 * j)) ≤ setV n L g st (coS n j) then setV n L g st (coS n j) else setV n L g st (nI (2 * j))
def R_parties (f : MM) (n L g : Nat) (q : Int32) : Int32 := if f 85 4 = 0 then -1000002 else if inR q 2 = true then (fun s => if q = 0 then nI (2 * s.1) else s.2) (soI (paV n L g (f 89)) (cnt n)) else -1000001
theorem nI_inc2 (i : Nat) : nI (2 * i) + Int32.ofInt 2 = nI (2 * (i + 1)) := nI_add (2 * i) 2
set_option maxRecDepth 100000 in
set_option maxHeartbeats 4000000 in
theorem l_parties {X : XT} {G : GG} {kn : Nat} {Q : State → Prop} {f : MM} {n L g : Nat} {a : Int32} (C : Cx X G mX9_parties 6 0 0 (NN kn)) (hn : n ≤ 6) (hL : L ≤ 8) (hg : g ≤ L) (h13 : f 89 13 = nI n) (h8 : f 89 8 = nI L) (h9 : f 89 9 = nI g) (K : ∀ g2 : MM, (fun _ g2 => agF f g2) (cnt n) g2 → Vw X G mX9_parties.2.2.2.1 0 0 Q (NN kn) (shF kn) g2 126 [some (.ref (G.1 + 85)), some (.int a), some (.int (nI (2 * (soI (paV n L g (f 89)) (cnt n)).1))), some (.int (soI (paV n L g (f 89)) (cnt n)).2), some (.int (nI (2 * (cnt n)))), none, none, none] []) : ∀ (m i : Nat) (g2 : MM), i + m = cnt n → (fun _ g2 => agF f g2) i g2 → Vw X G mX9_parties.2.2.2.1 0 0 Q (NN kn) (shF kn) g2 30 [some (.ref (G.1 + 85)), some (.int a), some (.int (nI (2 * (soI (paV n L g (f 89)) i).1))), some (.int (soI (paV n L g (f 89)) i).2), some (.int (nI (2 * i))), none, none, none] [] := by
  intro m
  induction m with
  | zero =>
    intro i g2 hm hg2
    obtain rfl : cnt n = i := by omega
    have hc := cnt_le n hn
    have hp : 2 ^ n - 1 < 2000 := by have := hc.2 1000; omega
    have hz := (hc.2 (cnt n)).mp
    refine r_iload (pc := 30) C dX9_parties_30 rfl ?_
    refine r_aload_n (pc := 32) C dX9_parties_32 rfl ?_
    refine q_vIf (pc := 33) C kX9_187 dX9_parties_33 (c_X9_all (n := n) (by rw [hg2.st]; exact h13)) (s_85 _) rfl rfl (Nat.le_of_ble_eq_true rfl) (by decide) ⟨by decide, by decide⟩ ?_
    refine q_is (2 ^ n - 1) (allI_n n hn) ?_
    refine q_gt (pc := 36) C (2 * (cnt n)) (2 ^ n - 1) 126 rfl rfl (by omega) (by omega) dX9_parties_36 (by decide) (fun c36 => ?_) (fun c36 => ?_)
    · exact K _ hg2
    · exact absurd c36 (by have := hc.2 (cnt n); omega)
  | succ m ih =>
    intro i g2 hm hg2
    have hc := cnt_le n hn
    have hp : 2 ^ n - 1 < 2000 := by have := hc.2 1000; omega
    refine r_iload (pc := 30) C dX9_parties_30 rfl ?_
    refine r_aload_n (pc := 32) C dX9_parties_32 rfl ?_
    refine q_vIf (pc := 33) C kX9_187 dX9_parties_33 (c_X9_all (n := n) (by rw [hg2.st]; exact h13)) (s_85 _) rfl rfl (Nat.le_of_ble_eq_true rfl) (by decide) ⟨by decide, by decide⟩ ?_
    refine q_is (2 ^ n - 1) (allI_n n hn) ?_
    refine q_gt (pc := 36) C (2 * i) (2 ^ n - 1) 126 rfl rfl (by omega) (by omega) dX9_parties_36 (by decide) (fun c36 => ?_) (fun c36 => ?_)
    · exact absurd c36 (by have := hc.2 i; omega)
    · refine r_aload_n (pc := 39) C dX9_parties_39 rfl ?_
      refine q_vVf (pc := 40) C kX9_203 dX9_parties_40 (c_X9_putAside) (s_85 _) rfl rfl (Nat.le_of_ble_eq_true rfl) (by decide) ⟨by decide, by decide⟩ ?_
      refine q_f (f' := thM g2) rfl ?_
      have e89 : thM g2 89 = f 89 := thM_89.trans hg2.st
      have e94 : ∀ t, t < 56 → thM g2 94 t = thM g2 89 t := fun t ht => by rw [thM_89]; exact fillM_in (by omega) (by omega)
      refine r_aload_n (pc := 43) C dX9_parties_43 rfl ?_
      refine r_iload (pc := 44) C dX9_parties_44 rfl ?_
      refine q_vIf (pc := 46) C kX9_206 dX9_parties_46 (c_X9_toHut (n := n) (L := L) (g := g) hn hL hg (by rw [e89]; exact h13) (by rw [e89]; exact h8) (by rw [e89]; exact h9)) (s_85 _) rfl rfl (Nat.le_of_ble_eq_true rfl) (by decide) ⟨by decide, by decide⟩ ?_
      refine q_val (setV n L g (f 89) (nI (2 * i))) (by rw [e89]; rfl) ?_
      refine r_istore (pc := 49) C dX9_parties_49 (by decide) rfl ?_
      refine r_aload_n (pc := 51) C dX9_parties_51 rfl ?_
      refine q_vVf (pc := 52) C kX9_209 dX9_parties_52 (c_X9_takeBack) (s_85 _) rfl rfl (Nat.le_of_ble_eq_true rfl) (by decide) ⟨by decide, by decide⟩ ?_
      refine q_f (f' := hbM n L g (nI (2 * i)) (thM g2)) rfl ?_
      have d89 : hbM n L g (nI (2 * i)) (thM g2) 89 = f 89 := (hbM_89 hn e94).trans e89
      have d94 : ∀ t, t < 56 → hbM n L g (nI (2 * i)) (thM g2) 94 t = hbM n L g (nI (2 * i)) (thM g2) 89 t := fun t ht => by rw [hbM_ne (by decide) (by omega), d89, e94 t ht, e89]
      refine r_aload_n (pc := 55) C dX9_parties_55 rfl ?_
      refine r_aload_n (pc := 56) C dX9_parties_56 rfl ?_
      refine q_vIf (pc := 57) C kX9_187 dX9_parties_57 (c_X9_all (n := n) (by rw [d89]; exact h13)) (s_85 _) rfl rfl (Nat.le_of_ble_eq_true rfl) (by decide) ⟨by decide, by decide⟩ ?_
      refine r_iload (pc := 60) C dX9_parties_60 rfl ?_
      refine r_iconst (pc := 62) C (-1) dX9_parties_62 (by decide) ?_
      refine r_ixor (pc := 63) C dX9_parties_63 ?_
      refine r_iand (pc := 64) C dX9_parties_64 ?_
      refine q_val (coS n i) rfl ?_
      refine q_vIf (pc := 65) C kX9_206 dX9_parties_65 (c_X9_toHut (n := n) (L := L) (g := g) hn hL hg (by rw [d89]; exact h13) (by rw [d89]; exact h8) (by rw [d89]; exact h9)) (s_85 _) rfl rfl (Nat.le_of_ble_eq_true rfl) (by decide) ⟨by decide, by decide⟩ ?_
      refine q_val (setV n L g (f 89) (coS n i)) (by rw [d89]; rfl) ?_
      refine r_istore (pc := 68) C dX9_parties_68 (by decide) rfl ?_
      refine r_aload_n (pc := 70) C dX9_parties_70 rfl ?_
      refine q_vVf (pc := 71) C kX9_209 dX9_parties_71 (c_X9_takeBack) (s_85 _) rfl rfl (Nat.le_of_ble_eq_true rfl) (by decide) ⟨by decide, by decide⟩ ?_
      refine q_f (f' := hbM n L g (coS n i) (hbM n L g (nI (2 * i)) (thM g2))) rfl ?_
      have hag : agF f (hbM n L g (coS n i) (hbM n L g (nI (2 * i)) (thM g2))) := fun k b k1 k2 => by
        by_cases hk : k = 89
        · subst hk; rw [hbM_89 hn d94, d89]
        · rw [hbM_ne hk k1, hbM_ne hk k1, ← hg2 k b k1 k2]; exact fillM_ne (by omega)
      have hbd := soI_bd (v := (paV n L g (f 89))) i
      refine r_iload (pc := 74) C dX9_parties_74 rfl ?_
      refine r_iload (pc := 76) C dX9_parties_76 rfl ?_
      refine r_icmp_le (pc := 78) C 86 dX9_parties_78 (by decide) (fun c78 => ?_) (fun c78 => ?_)
      · refine r_iload (pc := 86) C dX9_parties_86 rfl ?_
        refine q_val (paV n L g (f 89) i) (by simp [paV, c78]) ?_
        refine r_istore (pc := 88) C dX9_parties_88 (by decide) rfl ?_
        refine r_iload_n (pc := 90) C dX9_parties_90 rfl ?_
        refine r_if_lt (pc := 91) C 100 dX9_parties_91 (by decide) (fun c91 => ?_) (fun c91 => ?_)
        · refine r_iload (pc := 100) C dX9_parties_100 rfl ?_
          refine r_goto (pc := 102) C 106 dX9_parties_102 (by decide) ?_
          refine r_istore_n (pc := 106) C dX9_parties_106 (by decide) rfl ?_
          refine r_iload_n (pc := 107) C dX9_parties_107 rfl ?_
          refine r_iload (pc := 108) C dX9_parties_108 rfl ?_
          refine q_ne (pc := 110) C (2 * i) (2 * i) 118 rfl rfl (by omega) (by omega) dX9_parties_110 (by decide) (fun c110 => ?_) (fun c110 => ?_)
          · exact absurd rfl c110
          · refine r_iload (pc := 113) C dX9_parties_113 rfl ?_
            refine r_goto (pc := 115) C 119 dX9_parties_115 (by decide) ?_
            refine r_istore_n (pc := 119) C dX9_parties_119 (by decide) rfl ?_
            refine r_iinc (pc := 120) C (nI (2 * (i + 1))) dX9_parties_120 rfl (nI_inc2 i) (by decide) rfl ?_
            refine r_goto (pc := 123) C 30 dX9_parties_123 (by decide) ?_
            have e1 : soI (paV n L g (f 89)) (i + 1) = (i, (paV n L g (f 89)) i) := by
              show (if (soI (paV n L g (f 89)) i).2 < 0 then (i, (paV n L g (f 89)) i) else if (soI (paV n L g (f 89)) i).2 ≤ (paV n L g (f 89)) i then soI (paV n L g (f 89)) i else (i, (paV n L g (f 89)) i)) = _
              simp only [c91, if_true, if_false]
            have h := ih (i + 1) _ (by omega) hag
            rw [e1] at h
            exact v_drop _ (by repeat (first | exact trivial | exact rfl | constructor)) h
        · have hlt := soI_ne c91
          refine r_iload (pc := 94) C dX9_parties_94 rfl ?_
          refine r_iload_n (pc := 96) C dX9_parties_96 rfl ?_
          refine r_icmp_ge (pc := 97) C 105 dX9_parties_97 (by decide) (fun c97 => ?_) (fun c97 => ?_)
          · refine r_iload_n (pc := 105) C dX9_parties_105 rfl ?_
            refine r_istore_n (pc := 106) C dX9_parties_106 (by decide) rfl ?_
            refine r_iload_n (pc := 107) C dX9_parties_107 rfl ?_
            refine r_iload (pc := 108) C dX9_parties_108 rfl ?_
            refine q_ne (pc := 110) C (2 * (soI (paV n L g (f 89)) i).1) (2 * i) 118 rfl rfl (by omega) (by omega) dX9_parties_110 (by decide) (fun c110 => ?_) (fun c110 => ?_)
            · refine r_iload_n (pc := 118) C dX9_parties_118 rfl ?_
              refine r_istore_n (pc := 119) C dX9_parties_119 (by decide) rfl ?_
              refine r_iinc (pc := 120) C (nI (2 * (i + 1))) dX9_parties_120 rfl (nI_inc2 i) (by decide) rfl ?_
              refine r_goto (pc := 123) C 30 dX9_parties_123 (by decide) ?_
              have e1 : soI (paV n L g (f 89)) (i + 1) = soI (paV n L g (f 89)) i := by
                show (if (soI (paV n L g (f 89)) i).2 < 0 then (i, (paV n L g (f 89)) i) else if (soI (paV n L g (f 89)) i).2 ≤ (paV n L g (f 89)) i then soI (paV n L g (f 89)) i else (i, (paV n L g (f 89)) i)) = _
                simp only [c91, c97, if_true, if_false]
              have h := ih (i + 1) _ (by omega) hag
              rw [e1] at h
              exact v_drop _ (by repeat (first | exact trivial | exact rfl | constructor)) h
            · exact absurd c110 (by omega)
          · refine r_iload (pc := 100) C dX9_parties_100 rfl ?_
            refine r_goto (pc := 102) C 106 dX9_parties_102 (by decide) ?_
            refine r_istore_n (pc := 106) C dX9_parties_106 (by decide) rfl ?_
            refine r_iload_n (pc := 107) C dX9_parties_107 rfl ?_
            refine r_iload (pc := 108) C dX9_parties_108 rfl ?_
            refine q_ne (pc := 110) C (2 * i) (2 * i) 118 rfl rfl (by omega) (by omega) dX9_parties_110 (by decide) (fun c110 => ?_) (fun c110 => ?_)
            · exact absurd rfl c110
            · refine r_iload (pc := 113) C dX9_parties_113 rfl ?_
              refine r_goto (pc := 115) C 119 dX9_parties_115 (by decide) ?_
              refine r_istore_n (pc := 119) C dX9_parties_119 (by decide) rfl ?_
              refine r_iinc (pc := 120) C (nI (2 * (i + 1))) dX9_parties_120 rfl (nI_inc2 i) (by decide) rfl ?_
              refine r_goto (pc := 123) C 30 dX9_parties_123 (by decide) ?_
              have e1 : soI (paV n L g (f 89)) (i + 1) = (i, (paV n L g (f 89)) i) := by
                show (if (soI (paV n L g (f 89)) i).2 < 0 then (i, (paV n L g (f 89)) i) else if (soI (paV n L g (f 89)) i).2 ≤ (paV n L g (f 89)) i then soI (paV n L g (f 89)) i else (i, (paV n L g (f 89)) i)) = _
                simp only [c91, c97, if_true, if_false]
              have h := ih (i + 1) _ (by omega) hag
              rw [e1] at h
              exact v_drop _ (by repeat (first | exact trivial | exact rfl | constructor)) h
      · refine r_iload (pc := 81) C dX9_parties_81 rfl ?_
        refine r_goto (pc := 83) C 88 dX9_parties_83 (by decide) ?_
        refine q_val (paV n L g (f 89) i) (by simp [paV, c78]) ?_
        refine r_istore (pc := 88) C dX9_parties_88 (by decide) rfl ?_
        refine r_iload_n (pc := 90) C dX9_parties_90 rfl ?_
        refine r_if_lt (pc := 91) C 100 dX9_parties_91 (by decide) (fun c91 => ?_) (fun c91 => ?_)
        · refine r_iload (pc := 100) C dX9_parties_100 rfl ?_
          refine r_goto (pc := 102) C 106 dX9_parties_102 (by decide) ?_
          refine r_istore_n (pc := 106) C dX9_parties_106 (by decide) rfl ?_
          refine r_iload_n (pc := 107) C dX9_parties_107 rfl ?_
          refine r_iload (pc := 108) C dX9_parties_108 rfl ?_
          refine q_ne (pc := 110) C (2 * i) (2 * i) 118 rfl rfl (by omega) (by omega) dX9_parties_110 (by decide) (fun c110 => ?_) (fun c110 => ?_)
          · exact absurd rfl c110
          · refine r_iload (pc := 113) C dX9_parties_113 rfl ?_
            refine r_goto (pc := 115) C 119 dX9_parties_115 (by decide) ?_
            refine r_istore_n (pc := 119) C dX9_parties_119 (by decide) rfl ?_
            refine r_iinc (pc := 120) C (nI (2 * (i + 1))) dX9_parties_120 rfl (nI_inc2 i) (by decide) rfl ?_
            refine r_goto (pc := 123) C 30 dX9_parties_123 (by decide) ?_
            have e1 : soI (paV n L g (f 89)) (i + 1) = (i, (paV n L g (f 89)) i) := by
              show (if (soI (paV n L g (f 89)) i).2 < 0 then (i, (paV n L g (f 89)) i) else if (soI (paV n L g (f 89)) i).2 ≤ (paV n L g (f 89)) i then soI (paV n L g (f 89)) i else (i, (paV n L g (f 89)) i)) = _
              simp only [c91, if_true, if_false]
            have h := ih (i + 1) _ (by omega) hag
            rw [e1] at h
            exact v_drop _ (by repeat (first | exact trivial | exact rfl | constructor)) h
        · have hlt := soI_ne c91
          refine r_iload (pc := 94) C dX9_parties_94 rfl ?_
          refine r_iload_n (pc := 96) C dX9_parties_96 rfl ?_
          refine r_icmp_ge (pc := 97) C 105 dX9_parties_97 (by decide) (fun c97 => ?_) (fun c97 => ?_)
          · refine r_iload_n (pc := 105) C dX9_parties_105 rfl ?_
            refine r_istore_n (pc := 106) C dX9_parties_106 (by decide) rfl ?_
            refine r_iload_n (pc := 107) C dX9_parties_107 rfl ?_
            refine r_iload (pc := 108) C dX9_parties_108 rfl ?_
            refine q_ne (pc := 110) C (2 * (soI (paV n L g (f 89)) i).1) (2 * i) 118 rfl rfl (by omega) (by omega) dX9_parties_110 (by decide) (fun c110 => ?_) (fun c110 => ?_)
            · refine r_iload_n (pc := 118) C dX9_parties_118 rfl ?_
              refine r_istore_n (pc := 119) C dX9_parties_119 (by decide) rfl ?_
              refine r_iinc (pc := 120) C (nI (2 * (i + 1))) dX9_parties_120 rfl (nI_inc2 i) (by decide) rfl ?_
              refine r_goto (pc := 123) C 30 dX9_parties_123 (by decide) ?_
              have e1 : soI (paV n L g (f 89)) (i + 1) = soI (paV n L g (f 89)) i := by
                show (if (soI (paV n L g (f 89)) i).2 < 0 then (i, (paV n L g (f 89)) i) else if (soI (paV n L g (f 89)) i).2 ≤ (paV n L g (f 89)) i then soI (paV n L g (f 89)) i else (i, (paV n L g (f 89)) i)) = _
                simp only [c91, c97, if_true, if_false]
              have h := ih (i + 1) _ (by omega) hag
              rw [e1] at h
              exact v_drop _ (by repeat (first | exact trivial | exact rfl | constructor)) h
            · exact absurd c110 (by omega)
          · refine r_iload (pc := 100) C dX9_parties_100 rfl ?_
            refine r_goto (pc := 102) C 106 dX9_parties_102 (by decide) ?_
            refine r_istore_n (pc := 106) C dX9_parties_106 (by decide) rfl ?_
            refine r_iload_n (pc := 107) C dX9_parties_107 rfl ?_
            refine r_iload (pc := 108) C dX9_parties_108 rfl ?_
            refine q_ne (pc := 110) C (2 * i) (2 * i) 118 rfl rfl (by omega) (by omega) dX9_parties_110 (by decide) (fun c110 => ?_) (fun c110 => ?_)
            · exact absurd rfl c110
            · refine r_iload (pc := 113) C dX9_parties_113 rfl ?_
              refine r_goto (pc := 115) C 119 dX9_parties_115 (by decide) ?_
              refine r_istore_n (pc := 119) C dX9_parties_119 (by decide) rfl ?_
              refine r_iinc (pc := 120) C (nI (2 * (i + 1))) dX9_parties_120 rfl (nI_inc2 i) (by decide) rfl ?_
              refine r_goto (pc := 123) C 30 dX9_parties_123 (by decide) ?_
              have e1 : soI (paV n L g (f 89)) (i + 1) = (i, (paV n L g (f 89)) i) := by
                show (if (soI (paV n L g (f 89)) i).2 < 0 then (i, (paV n L g (f 89)) i) else if (soI (paV n L g (f 89)) i).2 ≤ (paV n L g (f 89)) i then soI (paV n L g (f 89)) i else (i, (paV n L g (f 89)) i)) = _
                simp only [c91, c97, if_true, if_false]
              have h := ih (i + 1) _ (by omega) hag
              rw [e1] at h
              exact v_drop _ (by repeat (first | exact trivial | exact rfl | constructor)) h
set_option maxRecDepth 100000 in
set_option maxHeartbeats 4000000 in
theorem c_X9_parties {G : GG} {kn : Nat} {f : MM} {n L g : Nat} (hn : n ≤ 6) (hL : L ≤ 8) (hg : g ≤ L) (h13 : f 89 13 = nI n) (h8 : f 89 8 = nI L) (h9 : f 89 9 = nI g) {a : Int32} : RI G mX9_parties 6 kn [.ref (G.1 + 85), .int a] f (fun v g2 => v = R_parties f n L g a ∧ agF f g2) := by
  refine Ct.of [some (.ref (G.1 + 85)), some (.int a), none, none, none, none, none, none] rfl (by decide +kernel) rfl (Nat.le_of_ble_eq_true rfl) rfl ?_
  intro X C
  refine r_aload_n (pc := 0) C dX9_parties_0 rfl ?_
  refine r_get (pc := 1) C fX9_154 dX9_parties_1 (s_85 _) rfl ?_
  refine r_if_ne (pc := 4) C 10 dX9_parties_4 (by decide) (fun c4 => ?_) (fun c4 => ?_)
  · refine r_iload_n (pc := 10) C dX9_parties_10 rfl ?_
    refine r_i2l (pc := 11) C dX9_parties_11 ?_
    refine r_lconst (pc := 12) C (0) dX9_parties_12 (by decide) ?_
    refine r_lconst (pc := 13) C (1) dX9_parties_13 (by decide) ?_
    refine q_sIf (pc := 14) C kX9_66 dX9_parties_14 (c_in0 (hi := 1) 2 rfl (by decide) (by decide)) rfl rfl (Nat.le_of_ble_eq_true rfl) (by decide) ⟨by decide, by decide⟩ ?_
    refine r_if_ne (pc := 17) C 23 dX9_parties_17 (by decide) (fun c17 => ?_) (fun c17 => ?_)
    · replace c17 := b1_1 c17
      refine r_iconst (pc := 23) C (0) dX9_parties_23 (by decide) ?_
      refine r_istore_n (pc := 24) C dX9_parties_24 (by decide) rfl ?_
      refine r_iconst (pc := 25) C (-1) dX9_parties_25 (by decide) ?_
      refine r_istore_n (pc := 26) C dX9_parties_26 (by decide) rfl ?_
      refine r_iconst (pc := 27) C (0) dX9_parties_27 (by decide) ?_
      refine r_istore (pc := 28) C dX9_parties_28 (by decide) rfl ?_
      refine v_drop _ (by repeat (first | exact trivial | exact rfl | constructor)) (l_parties C hn hL hg h13 h8 h9 (fun g2 hg2 => ?_) (cnt n) 0 _ (Nat.zero_add _) agF.rf)
      refine r_iload_n (pc := 126) C dX9_parties_126 rfl ?_
      refine r_if_ne (pc := 127) C 134 dX9_parties_127 (by decide) (fun c127 => ?_) (fun c127 => ?_)
      · refine r_iload_n (pc := 134) C dX9_parties_134 rfl ?_
        refine q_iret (pc := 135) C dX9_parties_135 rfl ?_
        exact ⟨by rw [R_parties, if_neg c4, if_pos c17]; simp [c127], hg2⟩
      · refine r_iload_n (pc := 130) C dX9_parties_130 rfl ?_
        refine r_goto (pc := 131) C 135 dX9_parties_131 (by decide) ?_
        refine q_iret (pc := 135) C dX9_parties_135 rfl ?_
        exact ⟨by rw [R_parties, if_neg c4, if_pos c17]; simp [c127], hg2⟩
    · replace c17 := b1_0 c17
      refine r_ldc (pc := 20) C (-1000001) kX9_76 dX9_parties_20 ?_
      refine q_iret (pc := 22) C dX9_parties_22 rfl ?_
      exact ⟨by simp [R_parties, c4, c17], agF.rf⟩
  · refine r_ldc (pc := 7) C (-1000002) kX9_183 dX9_parties_7 ?_
    refine q_iret (pc := 9) C dX9_parties_9 rfl ?_
    exact ⟨by simp [R_parties, c4], agF.rf⟩
/-- walked back the first k legs -/
def bkI (n : Nat) (s : Int32) : Nat → (Nat → Int32) → (Nat → Int32)
  | 0, st => st
  | k + 1, st => bkI n s k (walkP n n st s k)
theorem nI_m1e (k : Nat) : nI k + Int32.ofInt (-1) = nI k - 1 := by rw [show Int32.ofInt (-1) = -1 by decide, Int32.sub_eq_add_neg]
theorem bkI_lo {n k : Nat} {s : Int32} (h : k < 32) : ∀ (m : Nat) (st : Nat → Int32), bkI n s m st k = st k := by
  intro m
  induction m with
  | zero => intro st; rfl
  | succ m ih => intro st; exact (ih _).trans (walkP_lo h)
theorem bkI_hi {n k : Nat} {s : Int32} (h : 44 ≤ k) (hn : n ≤ 6) : ∀ (m : Nat) (st : Nat → Int32), bkI n s m st k = st k := by
  intro m
  induction m with
  | zero => intro st; rfl
  | succ m ih => intro st; exact (ih _).trans (walkP_hi h hn)
def okI (st : Nat → Int32) : Nat → Bool
  | 0 => true
  | k + 1 => okI st k && decide (st (38 + k) ≤ st 12)
set_option maxRecDepth 100000 in
set_option maxHeartbeats 4000000 in
theorem l_isBack1 {X : XT} {G : GG} {kn : Nat} {Q : State → Prop} {f : MM} {n : Nat} {S0 : Nat → Int32} (C : Cx X G mX9_isBack 4 0 0 (NN kn)) (hn : n ≤ 6) (K : Vw X G mX9_isBack.2.2.2.1 0 0 Q (NN kn) (shF kn) (va_up f 89 S0) 25 [some (.ref (G.1 + 85)), none, none] []) : ∀ (k : Nat) (st : Nat → Int32), k ≤ 8 → st 13 = nI n → bkI n (f 85 16) k st = S0 → Vw X G mX9_isBack.2.2.2.1 0 0 Q (NN kn) (shF kn) (va_up f 89 st) 10 [some (.ref (G.1 + 85)), some (.int (nI k - 1)), none] [] := by
  intro k
  induction k with
  | zero =>
    intro st hk h13 hS
    cases hS
    refine r_iload_n (pc := 10) C dX9_isBack_10 rfl ?_
    refine r_if_lt (pc := 11) C 25 dX9_isBack_11 (by decide) (fun c11 => ?_) (fun c11 => ?_)
    · exact v_drop _ (by repeat (first | exact trivial | exact rfl | constructor)) K
    · exact absurd (by decide) c11
  | succ k ih =>
    intro st hk h13 hS
    rw [nI_pred]
    refine r_iload_n (pc := 10) C dX9_isBack_10 rfl ?_
    refine r_if_lt (pc := 11) C 25 dX9_isBack_11 (by decide) (fun c11 => ?_) (fun c11 => ?_)
    · exact absurd c11 (nI_pos (by omega))
    · refine r_aload_n (pc := 14) C dX9_isBack_14 rfl ?_
      refine r_iload_n (pc := 15) C dX9_isBack_15 rfl ?_
      refine q_vVf (pc := 16) C kX9_176 dX9_isBack_16 (c_X9_walk (n := n) (leg := k) hn (by omega) (by rw [up_at]; exact h13)) (s_85 _) rfl rfl (Nat.le_of_ble_eq_true rfl) (by decide) ⟨by decide, by decide⟩ ?_
      rw [up_up, up_at, up_ne (by decide)]
      refine r_iinc (pc := 19) C (nI k + Int32.ofInt (-1)) dX9_isBack_19 rfl rfl (by decide) rfl ?_
      refine r_goto (pc := 22) C 10 dX9_isBack_22 (by decide) ?_
      have e : nI k + Int32.ofInt (-1) = nI k - 1 := nI_m1e k
      rw [e]

      exact ih _ (by omega) ((walkP_lo (by decide)).trans h13) hS
set_option maxRecDepth 100000 in
set_option maxHeartbeats 4000000 in
theorem l_isBack2 {X : XT} {G : GG} {kn : Nat} {Q : State → Prop} {f : MM} {n : Nat} (C : Cx X G mX9_isBack 4 0 0 (NN kn)) (hn : n ≤ 6) (h13 : f 89 13 = nI n) (K : Vw X G mX9_isBack.2.2.2.1 0 0 Q (NN kn) (shF kn) f 75 [some (.ref (G.1 + 85)), some (.int (b1 (okI (f 89) n))), some (.int (nI n))] []) : ∀ (m i : Nat), i + m = n → Vw X G mX9_isBack.2.2.2.1 0 0 Q (NN kn) (shF kn) f 29 [some (.ref (G.1 + 85)), some (.int (b1 (okI (f 89) i))), some (.int (nI i))] [] := by
  intro m
  induction m with
  | zero =>
    intro i hm
    obtain rfl : n = i := by omega
    refine r_iload_n (pc := 29) C dX9_isBack_29 rfl ?_
    refine r_aload_n (pc := 30) C dX9_isBack_30 rfl ?_
    refine r_getr (pc := 31) C fX9_19 dX9_isBack_31 (s_85 _) rfl rfl ?_
    refine r_bipush (pc := 34) C (13) dX9_isBack_34 (by decide) ?_
    refine q_iald (pc := 36) C 13 dX9_isBack_36 (s_89 _) (sn_89 _) rfl (by omega) (by decide) ?_
    refine q_ge (pc := 37) C n n 75 rfl h13 (by omega) (by omega) dX9_isBack_37 (by decide) (fun c37 => ?_) (fun c37 => ?_)
    · exact K
    · exact absurd c37 (by omega)
  | succ m ih =>
    intro i hm
    refine r_iload_n (pc := 29) C dX9_isBack_29 rfl ?_
    refine r_aload_n (pc := 30) C dX9_isBack_30 rfl ?_
    refine r_getr (pc := 31) C fX9_19 dX9_isBack_31 (s_85 _) rfl rfl ?_
    refine r_bipush (pc := 34) C (13) dX9_isBack_34 (by decide) ?_
    refine q_iald (pc := 36) C 13 dX9_isBack_36 (s_89 _) (sn_89 _) rfl (by omega) (by decide) ?_
    refine q_ge (pc := 37) C i n 75 rfl h13 (by omega) (by omega) dX9_isBack_37 (by decide) (fun c37 => ?_) (fun c37 => ?_)
    · exact absurd c37 (by omega)
    · refine r_iload_n (pc := 40) C dX9_isBack_40 rfl ?_
      refine r_if_eq (pc := 41) C 67 dX9_isBack_41 (by decide) (fun c41 => ?_) (fun c41 => ?_)
      · replace c41 := b1_0 c41
        refine r_iconst (pc := 67) C (0) dX9_isBack_67 (by decide) ?_
        refine r_istore_n (pc := 68) C dX9_isBack_68 (by decide) rfl ?_
        refine r_iinc (pc := 69) C (nI (i + 1)) dX9_isBack_69 rfl (nI_inc _) (by decide) rfl ?_
        refine r_goto (pc := 72) C 29 dX9_isBack_72 (by decide) ?_
        have e : okI (f 89) (i + 1) = false := by show (okI (f 89) i && decide (f 89 (38 + i) ≤ f 89 12)) = _; simp [c41]
        have h := ih (i + 1) (by omega)
        rw [e] at h
        exact h
      · replace c41 := b1_1 c41
        refine r_aload_n (pc := 44) C dX9_isBack_44 rfl ?_
        refine r_getr (pc := 45) C fX9_19 dX9_isBack_45 (s_85 _) rfl rfl ?_
        refine r_bipush (pc := 48) C (38) dX9_isBack_48 (by decide) ?_
        refine r_iload_n (pc := 50) C dX9_isBack_50 rfl ?_
        refine r_iadd (pc := 51) C dX9_isBack_51 ?_
        refine q_iald (pc := 52) C (38 + i) dX9_isBack_52 (s_89 _) (sn_89 _) (nI_add 38 i) (by omega) (by decide) ?_
        refine r_aload_n (pc := 53) C dX9_isBack_53 rfl ?_
        refine r_getr (pc := 54) C fX9_19 dX9_isBack_54 (s_85 _) rfl rfl ?_
        refine r_bipush (pc := 57) C (12) dX9_isBack_57 (by decide) ?_
        refine q_iald (pc := 59) C 12 dX9_isBack_59 (s_89 _) (sn_89 _) rfl (by omega) (by decide) ?_
        refine r_icmp_gt (pc := 60) C 67 dX9_isBack_60 (by decide) (fun c60 => ?_) (fun c60 => ?_)
        · have e60 := Int32.not_le.mpr c60
          refine r_iconst (pc := 67) C (0) dX9_isBack_67 (by decide) ?_
          refine r_istore_n (pc := 68) C dX9_isBack_68 (by decide) rfl ?_
          refine r_iinc (pc := 69) C (nI (i + 1)) dX9_isBack_69 rfl (nI_inc _) (by decide) rfl ?_
          refine r_goto (pc := 72) C 29 dX9_isBack_72 (by decide) ?_
          have e : okI (f 89) (i + 1) = false := by show (okI (f 89) i && decide (f 89 (38 + i) ≤ f 89 12)) = _; simp [c41, e60]
          have h := ih (i + 1) (by omega)
          rw [e] at h
          exact h
        · have e60 := Int32.not_lt.mp c60
          refine r_iconst (pc := 63) C (1) dX9_isBack_63 (by decide) ?_
          refine r_goto (pc := 64) C 68 dX9_isBack_64 (by decide) ?_
          refine r_istore_n (pc := 68) C dX9_isBack_68 (by decide) rfl ?_
          refine r_iinc (pc := 69) C (nI (i + 1)) dX9_isBack_69 rfl (nI_inc _) (by decide) rfl ?_
          refine r_goto (pc := 72) C 29 dX9_isBack_72 (by decide) ?_
          have e : okI (f 89) (i + 1) = true := by show (okI (f 89) i && decide (f 89 (38 + i) ≤ f 89 12)) = _; simp [c41, e60]
          have h := ih (i + 1) (by omega)
          rw [e] at h
          exact h
set_option maxRecDepth 100000 in
set_option maxHeartbeats 4000000 in
theorem c_X9_isBack {G : GG} {kn : Nat} {f : MM} {n g : Nat} (hn : n ≤ 6) (hg : g ≤ 8) (h13 : f 89 13 = nI n) (h9 : f 89 9 = nI g) : CI G mX9_isBack 4 kn [.ref (G.1 + 85)] f (b1 (okI (bkI n (f 85 16) g (f 89)) n)) (va_up f 89 (bkI n (f 85 16) g (f 89))) := by
  refine Ct.of [some (.ref (G.1 + 85)), none, none] rfl (by decide +kernel) rfl (Nat.le_of_ble_eq_true rfl) rfl ?_
  intro X C
  refine r_aload_n (pc := 0) C dX9_isBack_0 rfl ?_
  refine r_getr (pc := 1) C fX9_19 dX9_isBack_1 (s_85 _) rfl rfl ?_
  refine r_bipush (pc := 4) C (9) dX9_isBack_4 (by decide) ?_
  refine q_iald (pc := 6) C 9 dX9_isBack_6 (s_89 _) (sn_89 _) rfl (by omega) (by decide) ?_
  refine q_is g h9 ?_
  refine r_iconst (pc := 7) C (1) dX9_isBack_7 (by decide) ?_
  refine r_isub (pc := 8) C dX9_isBack_8 ?_
  refine r_istore_n (pc := 9) C dX9_isBack_9 (by decide) rfl ?_
  refine q_f (f' := va_up f 89 (f 89)) up_id.symm ?_
  refine l_isBack1 C hn ?_ g (f 89) hg h13 rfl
  refine r_iconst (pc := 25) C (1) dX9_isBack_25 (by decide) ?_
  refine r_istore_n (pc := 26) C dX9_isBack_26 (by decide) rfl ?_
  refine r_iconst (pc := 27) C (0) dX9_isBack_27 (by decide) ?_
  refine r_istore_n (pc := 28) C dX9_isBack_28 (by decide) rfl ?_
  refine v_drop _ (by repeat (first | exact trivial | exact rfl | constructor)) (l_isBack2 (n := n) C hn (by rw [up_at, bkI_lo (by decide)]; exact h13) ?_ n 0 (by omega))
  refine r_iload_n (pc := 75) C dX9_isBack_75 rfl ?_
  refine q_zret (pc := 76) C dX9_isBack_76 rfl (b1_z _) ?_
  exact ⟨by rw [up_at], rfl⟩
/-- whether all are back in time from gate q -/
def tuB (n L g : Nat) (st : Nat → Int32) (q : Nat) : Bool := okI (bkI n (allI n) q (hutI n L (allI n) (q - g) g st)) n
def tuI (n L g : Nat) (st : Nat → Int32) : Nat → Int32
  | 0 => -1000000
  | k + 1 => if tuB n L g st (g + k) = true then nI (g + k) else tuI n L g st k
def R_turn (f : MM) (n L g : Nat) : Int32 := if f 85 4 = 0 then -1000002 else tuI n L g (f 89) (L + 1 - g)
def goTo (n L : Nat) (s : Int32) : Nat → Nat → (Nat → Int32) → (Nat → Int32) := fun m g st => hutI n L s m g st
theorem hutI_9 {n L : Nat} {s : Int32} : ∀ (m g : Nat) (st : Nat → Int32), st 9 = nI g → hutI n L s m g st 9 = nI (g + m) := by
  intro m
  induction m with
  | zero => intro g st h; exact h
  | succ m ih =>
    intro g st h
    have := ih (g + 1) (goS n L g s st) goS_9
    rw [show g + 1 + m = g + (m + 1) by omega] at this
    exact this
set_option maxRecDepth 100000 in
set_option maxHeartbeats 4000000 in
theorem l_turn1 {X : XT} {G : GG} {kn : Nat} {Q : State → Prop} {f : MM} {n L q : Nat} {s y1 y2 : Int32} {S0 : Nat → Int32} (C : Cx X G mX9_turn 5 0 0 (NN kn)) (hn : n ≤ 6) (hL : L ≤ 8) (hq : q ≤ L) (hs : f 85 16 = s) (K : Vw X G mX9_turn.2.2.2.1 0 0 Q (NN kn) (shF kn) (va_up f 89 S0) 64 [some (.ref (G.1 + 85)), some (.int y1), some (.int y2), some (.int (nI q))] []) : ∀ (m g : Nat) (st : Nat → Int32), g + m = q → st 13 = nI n → st 8 = nI L → st 9 = nI g → hutI n L s m g st = S0 → Vw X G mX9_turn.2.2.2.1 0 0 Q (NN kn) (shF kn) (va_up f 89 st) 46 [some (.ref (G.1 + 85)), some (.int y1), some (.int y2), some (.int (nI q))] [] := by
  intro m
  induction m with
  | zero =>
    intro g st hm h13 h8 h9 hS
    obtain rfl : q = g := by omega
    cases hS
    refine r_aload_n (pc := 46) C dX9_turn_46 rfl ?_
    refine r_getr (pc := 47) C fX9_19 dX9_turn_47 (s_85 _) rfl rfl ?_
    refine r_bipush (pc := 50) C (9) dX9_turn_50 (by decide) ?_
    refine q_iald (pc := 52) C 9 dX9_turn_52 (s_89 _) (sn_89 _) rfl (by omega) (by decide) ?_
    refine r_iload_n (pc := 53) C dX9_turn_53 rfl ?_
    refine q_ge (pc := 54) C q q 64 (by rw [up_at]; exact h9) rfl (by omega) (by omega) dX9_turn_54 (by decide) (fun c54 => ?_) (fun c54 => ?_)
    · exact K
    · exact absurd c54 (by omega)
  | succ m ih =>
    intro g st hm h13 h8 h9 hS
    refine r_aload_n (pc := 46) C dX9_turn_46 rfl ?_
    refine r_getr (pc := 47) C fX9_19 dX9_turn_47 (s_85 _) rfl rfl ?_
    refine r_bipush (pc := 50) C (9) dX9_turn_50 (by decide) ?_
    refine q_iald (pc := 52) C 9 dX9_turn_52 (s_89 _) (sn_89 _) rfl (by omega) (by decide) ?_
    refine r_iload_n (pc := 53) C dX9_turn_53 rfl ?_
    refine q_ge (pc := 54) C g q 64 (by rw [up_at]; exact h9) rfl (by omega) (by omega) dX9_turn_54 (by decide) (fun c54 => ?_) (fun c54 => ?_)
    · exact absurd c54 (by omega)
    · refine r_aload_n (pc := 57) C dX9_turn_57 rfl ?_
      refine q_vVf (pc := 58) C kX9_190 dX9_turn_58 (c_X9_goOn (n := n) (L := L) (g := g) hn hL (by omega) (by rw [up_at]; exact h13) (by rw [up_at]; exact h8) (by rw [up_at]; exact h9)) (s_85 _) rfl rfl (Nat.le_of_ble_eq_true rfl) (by decide) ⟨by decide, by decide⟩ ?_
      rw [up_up, up_at, up_ne (by decide), hs]
      refine r_goto (pc := 61) C 46 dX9_turn_61 (by decide) ?_
      exact ih (g + 1) _ (by omega) ((goS_lo (by decide) (by decide)).trans h13) ((goS_lo (by decide) (by decide)).trans h8) goS_9 hS
set_option maxRecDepth 100000 in
set_option maxHeartbeats 4000000 in
theorem l_turn2 {X : XT} {G : GG} {kn : Nat} {Q : State → Prop} {f : MM} {n L g : Nat} (C : Cx X G mX9_turn 5 0 0 (NN kn)) (hn : n ≤ 6) (hL : L ≤ 8) (hg : g ≤ L) (h13 : f 89 13 = nI n) (h8 : f 89 8 = nI L) (h9 : f 89 9 = nI g) (K : ∀ g2 : MM, agF f g2 → Vw X G mX9_turn.2.2.2.1 0 0 Q (NN kn) (shF kn) g2 87 [some (.ref (G.1 + 85)), some (.int (tuI n L g (f 89) (L + 1 - g))), some (.int (nI g)), some (.int (nI (g + (L + 1 - g))))] []) : ∀ (m i : Nat) (g2 : MM), i + m = L + 1 - g → agF f g2 → g2 85 16 = allI n → Vw X G mX9_turn.2.2.2.1 0 0 Q (NN kn) (shF kn) g2 31 [some (.ref (G.1 + 85)), some (.int (tuI n L g (f 89) i)), some (.int (nI g)), some (.int (nI (g + i)))] [] := by
  intro m
  induction m with
  | zero =>
    intro i g2 hm hg2 e16
    obtain rfl : L + 1 - g = i := by omega
    refine r_iload_n (pc := 31) C dX9_turn_31 rfl ?_
    refine r_aload_n (pc := 32) C dX9_turn_32 rfl ?_
    refine r_getr (pc := 33) C fX9_19 dX9_turn_33 (s_85 _) rfl rfl ?_
    refine r_bipush (pc := 36) C (8) dX9_turn_36 (by decide) ?_
    refine q_iald (pc := 38) C 8 dX9_turn_38 (s_89 _) (sn_89 _) rfl (by omega) (by decide) ?_
    refine q_gt (pc := 39) C (g + (L + 1 - g)) L 87 rfl (by rw [hg2.st]; exact h8) (by omega) (by omega) dX9_turn_39 (by decide) (fun c39 => ?_) (fun c39 => ?_)
    · exact K _ hg2
    · exact absurd c39 (by omega)
  | succ m ih =>
    intro i g2 hm hg2 e16
    refine r_iload_n (pc := 31) C dX9_turn_31 rfl ?_
    refine r_aload_n (pc := 32) C dX9_turn_32 rfl ?_
    refine r_getr (pc := 33) C fX9_19 dX9_turn_33 (s_85 _) rfl rfl ?_
    refine r_bipush (pc := 36) C (8) dX9_turn_36 (by decide) ?_
    refine q_iald (pc := 38) C 8 dX9_turn_38 (s_89 _) (sn_89 _) rfl (by omega) (by decide) ?_
    refine q_gt (pc := 39) C (g + i) L 87 rfl (by rw [hg2.st]; exact h8) (by omega) (by omega) dX9_turn_39 (by decide) (fun c39 => ?_) (fun c39 => ?_)
    · exact absurd c39 (by omega)
    · refine r_aload_n (pc := 42) C dX9_turn_42 rfl ?_
      refine q_vVf (pc := 43) C kX9_203 dX9_turn_43 (c_X9_putAside) (s_85 _) rfl rfl (Nat.le_of_ble_eq_true rfl) (by decide) ⟨by decide, by decide⟩ ?_
      refine q_f (f' := thM g2) rfl ?_
      have e89 : thM g2 89 = f 89 := thM_89.trans hg2.st
      have e16t : thM g2 85 16 = allI n := (fillM_ne (by decide)).trans e16
      refine q_f (f' := va_up (thM g2) 89 (f 89)) (by rw [← e89, up_id]) ?_
      refine l_turn1 (q := g + i) (s := allI n) C hn hL (by omega) e16t ?_ (g + i - g) g (f 89) (by omega) h13 h8 h9 rfl
      refine r_aload_n (pc := 64) C dX9_turn_64 rfl ?_
      refine q_vIf (pc := 65) C kX9_228 dX9_turn_65 (c_X9_isBack (n := n) (g := g + i) hn (by omega) (by rw [up_at, hutI_lo (by decide) (by decide)]; exact h13) (by rw [up_at, hutI_9 _ _ _ h9]; congr 1; omega)) (s_85 _) rfl rfl (Nat.le_of_ble_eq_true rfl) (by decide) ⟨by decide, by decide⟩ ?_
      rw [up_at, up_ne (by decide), e16t, up_up]
      refine r_if_eq (pc := 68) C 75 dX9_turn_68 (by decide) (fun c68 => ?_) (fun c68 => ?_)
      · replace c68 := b1_0 c68
        refine r_iload_n (pc := 75) C dX9_turn_75 rfl ?_
        refine r_istore_n (pc := 76) C dX9_turn_76 (by decide) rfl ?_
        refine r_aload_n (pc := 77) C dX9_turn_77 rfl ?_
        refine q_vVf (pc := 78) C kX9_209 dX9_turn_78 (c_X9_takeBack) (s_85 _) rfl rfl (Nat.le_of_ble_eq_true rfl) (by decide) ⟨by decide, by decide⟩ ?_
        have hag : agF f (fillM (va_up (thM g2) 89 (bkI n (allI n) (g + i) (hutI n L (allI n) (g + i - g) g (f 89)))) 89 0 56 (va_up (thM g2) 89 (bkI n (allI n) (g + i) (hutI n L (allI n) (g + i - g) g (f 89))) 94)) := by
          refine agF.back (fun t ht => ?_) (fun t ht => ?_) (fun k b k1 k2 k3 => ?_)
          · rw [up_ne (by decide), ← hg2.st]; exact fillM_in (by omega) (by omega)
          · rw [up_at, bkI_hi (by omega) hn, hutI_hi (by omega) hn]
          · rw [up_ne k1, ← hg2 k b k2 k3]; exact fillM_ne (by omega)
        refine r_iinc (pc := 81) C (nI (g + (i + 1))) dX9_turn_81 rfl (nI_inc (g + i)) (by decide) rfl ?_
        refine r_goto (pc := 84) C 31 dX9_turn_84 (by decide) ?_
        have e1 : tuI n L g (f 89) (i + 1) = tuI n L g (f 89) i := by show (if tuB n L g (f 89) (g + i) = true then nI (g + i) else tuI n L g (f 89) i) = _; rw [if_neg (by rw [tuB, c68]; decide)]
        have h := ih (i + 1) _ (by omega) hag (by rw [fillM_ne (by decide), up_ne (by decide)]; exact e16t)
        rw [e1] at h
        exact h
      · replace c68 := b1_1 c68
        refine r_iload_n (pc := 71) C dX9_turn_71 rfl ?_
        refine r_goto (pc := 72) C 76 dX9_turn_72 (by decide) ?_
        refine r_istore_n (pc := 76) C dX9_turn_76 (by decide) rfl ?_
        refine r_aload_n (pc := 77) C dX9_turn_77 rfl ?_
        refine q_vVf (pc := 78) C kX9_209 dX9_turn_78 (c_X9_takeBack) (s_85 _) rfl rfl (Nat.le_of_ble_eq_true rfl) (by decide) ⟨by decide, by decide⟩ ?_
        have hag : agF f (fillM (va_up (thM g2) 89 (bkI n (allI n) (g + i) (hutI n L (allI n) (g + i - g) g (f 89)))) 89 0 56 (va_up (thM g2) 89 (bkI n (allI n) (g + i) (hutI n L (allI n) (g + i - g) g (f 89))) 94)) := by
          refine agF.back (fun t ht => ?_) (fun t ht => ?_) (fun k b k1 k2 k3 => ?_)
          · rw [up_ne (by decide), ← hg2.st]; exact fillM_in (by omega) (by omega)
          · rw [up_at, bkI_hi (by omega) hn, hutI_hi (by omega) hn]
          · rw [up_ne k1, ← hg2 k b k2 k3]; exact fillM_ne (by omega)
        refine r_iinc (pc := 81) C (nI (g + (i + 1))) dX9_turn_81 rfl (nI_inc (g + i)) (by decide) rfl ?_
        refine r_goto (pc := 84) C 31 dX9_turn_84 (by decide) ?_
        have e1 : tuI n L g (f 89) (i + 1) = nI (g + i) := by show (if tuB n L g (f 89) (g + i) = true then nI (g + i) else tuI n L g (f 89) i) = _; rw [if_pos (by rw [tuB, c68])]
        have h := ih (i + 1) _ (by omega) hag (by rw [fillM_ne (by decide), up_ne (by decide)]; exact e16t)
        rw [e1] at h
        exact h
set_option maxRecDepth 100000 in
set_option maxHeartbeats 4000000 in
theorem c_X9_turn {G : GG} {kn : Nat} {f : MM} {n L g : Nat} (hn : n ≤ 6) (hL : L ≤ 8) (hg : g ≤ L) (h13 : f 89 13 = nI n) (h8 : f 89 8 = nI L) (h9 : f 89 9 = nI g) : RI G mX9_turn 5 kn [.ref (G.1 + 85)] f (fun v g2 => v = R_turn f n L g ∧ agF f g2) := by
  refine Ct.of [some (.ref (G.1 + 85)), none, none, none] rfl (by decide +kernel) rfl (Nat.le_of_ble_eq_true rfl) rfl ?_
  intro X C
  refine r_aload_n (pc := 0) C dX9_turn_0 rfl ?_
  refine r_get (pc := 1) C fX9_154 dX9_turn_1 (s_85 _) rfl ?_
  refine r_if_ne (pc := 4) C 10 dX9_turn_4 (by decide) (fun c4 => ?_) (fun c4 => ?_)
  · refine r_ldc (pc := 10) C (-1000000) kX9_200 dX9_turn_10 ?_
    refine r_istore_n (pc := 12) C dX9_turn_12 (by decide) rfl ?_
    refine r_aload_n (pc := 13) C dX9_turn_13 rfl ?_
    refine r_aload_n (pc := 14) C dX9_turn_14 rfl ?_
    refine q_vIf (pc := 15) C kX9_187 dX9_turn_15 (c_X9_all (n := n) h13) (s_85 _) rfl rfl (Nat.le_of_ble_eq_true rfl) (by decide) ⟨by decide, by decide⟩ ?_
    refine r_put (pc := 18) C fX9_161 ftX9_16 dX9_turn_18 (s_85 _) rfl ?_
    refine r_aload_n (pc := 21) C dX9_turn_21 rfl ?_
    refine r_getr (pc := 22) C fX9_19 dX9_turn_22 (s_85 _) rfl rfl ?_
    refine r_bipush (pc := 25) C (9) dX9_turn_25 (by decide) ?_
    refine q_iald (pc := 27) C 9 dX9_turn_27 (s_89 _) (sn_89 _) rfl (by omega) (by decide) ?_
    refine q_is g (by rw [u2_row (by decide)]; exact h9) ?_
    refine r_istore_n (pc := 28) C dX9_turn_28 (by decide) rfl ?_
    refine r_iload_n (pc := 29) C dX9_turn_29 rfl ?_
    refine r_istore_n (pc := 30) C dX9_turn_30 (by decide) rfl ?_
    refine v_drop _ (by repeat (first | exact trivial | exact rfl | constructor)) (l_turn2 C hn hL hg h13 h8 h9 (fun g2 hg2 => ?_) (L + 1 - g) 0 _ (Nat.zero_add _) (fun k b k1 k2 => by simp only [u2]; rw [if_neg k1]) (by simp [u2]; rfl))
    refine r_iload_n (pc := 87) C dX9_turn_87 rfl ?_
    refine q_iret (pc := 88) C dX9_turn_88 rfl ?_
    exact ⟨by rw [R_turn, if_neg c4], hg2⟩
  · refine r_ldc (pc := 7) C (-1000002) kX9_183 dX9_turn_7 ?_
    refine q_iret (pc := 9) C dX9_turn_9 rfl ?_
    exact ⟨by simp [R_turn, c4], agF.rf⟩
