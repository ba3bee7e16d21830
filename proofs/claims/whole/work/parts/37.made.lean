/-! MAKING: what is foretold, the whole object, the reference -/
def foL (j : Nat) : Option Nat := [some 28, some 36, some 44, some 45, some 46].getD j none
def fSh (sh : SH) (i : Nat) : SH := fun k => if k < 27 then sh k else if k = 27 then (2, 0, fun j => if j < i then foL j else none) else if k < 36 then ptyS 28 (k - 28) else if k < 44 then ptyS 36 (k - 36) else (10, 6, fun _ => none)
def fF (f : MM) : MM := fun k => if k < 27 then f k else fun j => if (k = 28 ∨ k = 36) ∧ j = 2 then 63 else 0
theorem fSh_put {sh : SH} {i t : Nat} (ht : foL i = some t) (k : Nat) : va_up (fSh sh i) 27 (2, (fSh sh i 27).2.1, va_up (fSh sh i 27).2.2 i (some t)) k = fSh sh (i + 1) k := by
  by_cases e : k = 27
  · subst e
    rw [va_up_self]
    show (2, 0, _) = (2, 0, _)
    congr 2
    funext j
    show (if j = i then some t else if j < i then foL j else none) = if j < i + 1 then foL j else none
    by_cases q : j = i
    · rw [if_pos q, if_pos (by omega), q, ht]
    · rw [if_neg q]
      by_cases q2 : j < i
      · rw [if_pos q2, if_pos (by omega)]
      · rw [if_neg q2, if_neg (by omega)]
  · rw [va_up_ne _ _ e]
    unfold fSh
    rw [if_neg e, if_neg e]
set_option maxRecDepth 100000 in
set_option maxHeartbeats 4000000 in
theorem n_X2 {G : GG} {sh : SH} {f : MM} (hsh : sh 27 = (2, 0, fun _ => none)) (hf : f 27 = fun _ => 0) : Ct G mX2_init 3 19 120 [.ref (G.1 + 27)] (28) sh f (Mk 27 20 (fun o d => fSh sh 5 (o + d)) (fun d => fF f (27 + d)) sh f) := by
  refine Ct.of [some (.ref (G.1 + 27))] rfl (by decide +kernel) rfl (Nat.le_of_ble_eq_true rfl) rfl ?_
  intro X C
  refine r_aload_n (pc := 0) C dX2_init_0 rfl ?_
  refine r_objInit (pc := 1) C wObX2 wOi wOc dX2_init_1 (by decide) (Nat.le_of_ble_eq_true rfl) ?_
  refine v_eqW (sh' := fSh sh 0) (f' := fF f) (fun k hk => ?_) ?_
  · by_cases e : k = 27
    · subst e
      exact ⟨by rw [hsh]; rfl, by rw [hf]; funext j; simp [fF]⟩
    · have h : k < 27 := by omega
      exact ⟨by simp [fSh, h], by simp [fF, h]⟩
  refine r_aload_n (pc := 4) C dX2_init_4 rfl ?_
  refine r_new (ci := 3) (pc := 5) C wClX2_9 wInX3 wIzX3 rfl inG_X3 tyX3_ok dfX3 dX2_init_5 ⟨by omega, by simp [nfl]⟩ ?_
  refine r_dup (pc := 8) C dX2_init_8 rfl ?_
  refine r_calli (pc := 9) C kX2_11 dX2_init_9 (n_X3 (p := 28) (va_up_self _ _ _) (va_up_self _ _ _)) rfl rfl (Nat.le_of_ble_eq_true rfl) (by decide) ⟨by omega, by simp [nfl]⟩ (fun r9 N9 s9 f9 h9 => ?_)
  obtain ⟨rfl, rfl, a9, b9⟩ := h9
  refine v_eqW (sh' := fSh sh 0) (f' := fF f) (fun k hk => ?_) ?_
  · by_cases e : k < 28
    · have q := a9 k e
      rw [q.1, q.2, va_up_ne _ _ (by omega), va_up_ne _ _ (by omega)]
      exact ⟨rfl, rfl⟩
    · obtain ⟨d, rfl⟩ : ∃ d, k = 28 + d := ⟨k - 28, by omega⟩
      have hd : d < 8 := by omega
      have q := b9 d hd
      rw [q.1, q.2]
      refine ⟨?_, ?_⟩
      · unfold fSh
        rw [if_neg (by omega), if_neg (by omega), if_pos (by omega), Nat.add_sub_cancel_left]
      · funext j
        unfold fF ptF
        rw [if_neg (show ¬ 28 + d < 27 by omega)]
        by_cases z : d = 0 ∧ j = 2
        · rw [if_pos z, if_pos (by omega)]
        · rw [if_neg z, if_neg (by omega)]
  refine r_putF (pc := 12) C fX2_12 ftrX2_0 dX2_init_12 ⟨by omega, rfl⟩ rfl rfl ⟨TX2, rfl⟩ wPlX2_12 rfl rfl ?_
  refine v_eqW (sh' := fSh sh 1) (f' := fF f) (fun k hk => ⟨fSh_put rfl k, rfl⟩) ?_
  refine r_aload_n (pc := 15) C dX2_init_15 rfl ?_
  refine r_new (ci := 3) (pc := 16) C wClX2_9 wInX3 wIzX3 rfl inG_X3 tyX3_ok dfX3 dX2_init_16 ⟨by omega, by simp [nfl]⟩ ?_
  refine r_dup (pc := 19) C dX2_init_19 rfl ?_
  refine r_calli (pc := 20) C kX2_11 dX2_init_20 (n_X3 (p := 36) (va_up_self _ _ _) (va_up_self _ _ _)) rfl rfl (Nat.le_of_ble_eq_true rfl) (by decide) ⟨by omega, by simp [nfl]⟩ (fun r20 N20 s20 f20 h20 => ?_)
  obtain ⟨rfl, rfl, a20, b20⟩ := h20
  refine v_eqW (sh' := fSh sh 1) (f' := fF f) (fun k hk => ?_) ?_
  · by_cases e : k < 36
    · have q := a20 k e
      rw [q.1, q.2, va_up_ne _ _ (by omega), va_up_ne _ _ (by omega)]
      exact ⟨rfl, rfl⟩
    · obtain ⟨d, rfl⟩ : ∃ d, k = 36 + d := ⟨k - 36, by omega⟩
      have hd : d < 8 := by omega
      have q := b20 d hd
      rw [q.1, q.2]
      refine ⟨?_, ?_⟩
      · unfold fSh
        rw [if_neg (by omega), if_neg (by omega), if_neg (by omega), if_pos (by omega), Nat.add_sub_cancel_left]
      · funext j
        unfold fF ptF
        rw [if_neg (show ¬ 36 + d < 27 by omega)]
        by_cases z : d = 0 ∧ j = 2
        · rw [if_pos z, if_pos (by omega)]
        · rw [if_neg z, if_neg (by omega)]
  refine r_putF (pc := 23) C fX2_18 ftrX2_1 dX2_init_23 ⟨by omega, rfl⟩ rfl rfl ⟨TX2, rfl⟩ wPlX2_18 rfl rfl ?_
  refine v_eqW (sh' := fSh sh 2) (f' := fF f) (fun k hk => ⟨fSh_put rfl k, rfl⟩) ?_
  refine r_aload_n (pc := 26) C dX2_init_26 rfl ?_
  refine r_bipush (pc := 27) C (6) dX2_init_27 (by decide) ?_
  refine r_newi (pc := 29) C 6 wAi (by decide) (by decide) (by decide) dX2_init_29 ⟨by omega, by simp [nfl]⟩ ?_
  refine v_eqW (sh' := fSh sh 2) (f' := fF f) (fun k hk => ?_) ?_
  · by_cases e : k = 44
    · subst e
      exact ⟨by rw [va_up_self]; rfl, by rw [va_up_self]; funext j; simp [fF]⟩
    · rw [va_up_ne _ _ e, va_up_ne _ _ e]
      exact ⟨rfl, rfl⟩
  refine r_putF (pc := 31) C fX2_21 ftrX2_2 dX2_init_31 ⟨by omega, rfl⟩ rfl rfl ⟨TX2, rfl⟩ wPlX2_21 rfl rfl ?_
  refine v_eqW (sh' := fSh sh 3) (f' := fF f) (fun k hk => ⟨fSh_put rfl k, rfl⟩) ?_
  refine r_aload_n (pc := 34) C dX2_init_34 rfl ?_
  refine r_bipush (pc := 35) C (6) dX2_init_35 (by decide) ?_
  refine r_newi (pc := 37) C 6 wAi (by decide) (by decide) (by decide) dX2_init_37 ⟨by omega, by simp [nfl]⟩ ?_
  refine v_eqW (sh' := fSh sh 3) (f' := fF f) (fun k hk => ?_) ?_
  · by_cases e : k = 45
    · subst e
      exact ⟨by rw [va_up_self]; rfl, by rw [va_up_self]; funext j; simp [fF]⟩
    · rw [va_up_ne _ _ e, va_up_ne _ _ e]
      exact ⟨rfl, rfl⟩
  refine r_putF (pc := 39) C fX2_25 ftrX2_3 dX2_init_39 ⟨by omega, rfl⟩ rfl rfl ⟨TX2, rfl⟩ wPlX2_25 rfl rfl ?_
  refine v_eqW (sh' := fSh sh 4) (f' := fF f) (fun k hk => ⟨fSh_put rfl k, rfl⟩) ?_
  refine r_aload_n (pc := 42) C dX2_init_42 rfl ?_
  refine r_bipush (pc := 43) C (6) dX2_init_43 (by decide) ?_
  refine r_newi (pc := 45) C 6 wAi (by decide) (by decide) (by decide) dX2_init_45 ⟨by omega, by simp [nfl]⟩ ?_
  refine v_eqW (sh' := fSh sh 4) (f' := fF f) (fun k hk => ?_) ?_
  · by_cases e : k = 46
    · subst e
      exact ⟨by rw [va_up_self]; rfl, by rw [va_up_self]; funext j; simp [fF]⟩
    · rw [va_up_ne _ _ e, va_up_ne _ _ e]
      exact ⟨rfl, rfl⟩
  refine r_putF (pc := 47) C fX2_28 ftrX2_4 dX2_init_47 ⟨by omega, rfl⟩ rfl rfl ⟨TX2, rfl⟩ wPlX2_28 rfl rfl ?_
  refine v_eqW (sh' := fSh sh 5) (f' := fF f) (fun k hk => ⟨fSh_put rfl k, rfl⟩) ?_
  refine r_vret (pc := 50) C dX2_init_50 rfl ⟨by omega, by simp [nfl]⟩ ?_
  exact ⟨rfl, rfl, fun k hk => ⟨by simp [fSh, hk], by simp [fF, hk]⟩, fun d hd => ⟨rfl, rfl⟩⟩
def fZ : MM := fun k j => if (k = 6 ∨ k = 16 ∨ k = 28 ∨ k = 36 ∨ k = 67 ∨ k = 77) ∧ j = 2 then 63 else if (49 ≤ k ∧ k < 65 ∧ k % 2 = 1 ∧ j = 1) then 1 else if k = 87 ∧ j < 8 then -1 else 0
def lrL (j : Nat) : Option Nat := [some 1, some 2, some 4, some 14, some 24, some 25, some 27, some 47].getD j none
def shQ (s nr ni : Nat) : SH := fun k => if k = 0 then (8, 0, fun j => if j < s then lrL j else none) else if k = 1 then (12, 8, fun j => if j < nr then some (49 + 2 * j) else none) else if k = 24 then (14, 2, fun j => if j < ni then some (65 + 10 * j) else none) else shF 0 k
theorem shQ_r {s nr ni k : Nat} (h0 : k ≠ 0) (h1 : k ≠ 1) (h2 : k ≠ 24) : shQ s nr ni k = shF 0 k := by unfold shQ; rw [if_neg h0, if_neg h1, if_neg h2]
theorem shQ_1 {s nr ni : Nat} : shQ s nr ni 1 = (12, 8, fun j => if j < nr then some (49 + 2 * j) else none) := rfl
theorem shQ_24 {s nr ni : Nat} : shQ s nr ni 24 = (14, 2, fun j => if j < ni then some (65 + 10 * j) else none) := rfl
theorem shQ_put {s nr ni t : Nat} (ht : lrL s = some t) (k : Nat) : va_up (shQ s nr ni) 0 (8, (shQ s nr ni 0).2.1, va_up (shQ s nr ni 0).2.2 s (some t)) k = shQ (s + 1) nr ni k := by
  by_cases e : k = 0
  · subst e
    rw [va_up_self]
    show (8, 0, _) = (8, 0, _)
    congr 2
    funext j
    show (if j = s then some t else if j < s then lrL j else none) = if j < s + 1 then lrL j else none
    by_cases q : j = s
    · rw [if_pos q, if_pos (by omega), q, ht]
    · rw [if_neg q]
      by_cases q2 : j < s
      · rw [if_pos q2, if_pos (by omega)]
      · rw [if_neg q2, if_neg (by omega)]
  · rw [va_up_ne _ _ e]
    unfold shQ
    rw [if_neg e, if_neg e]
theorem fZ_way {o d : Nat} (ho : o = 4 ∨ o = 14 ∨ o = 65 ∨ o = 75) (hd : d < 10) : wyF d = fZ (o + d) := by
  funext j
  unfold wyF fZ
  by_cases e : d = 2 ∧ j = 2
  · rw [if_pos e, if_pos (by omega)]
  · rw [if_neg e, if_neg (by omega), if_neg (by omega), if_neg (by omega)]
theorem fZ_row {i d : Nat} (hi : i < 8) (hd : d < 2) : rwF d = fZ (49 + 2 * i + d) := by
  funext j
  unfold rwF fZ
  by_cases e : d = 0 ∧ j = 1
  · rw [if_pos e, if_neg (by omega), if_pos (by omega)]
  · rw [if_neg e, if_neg (by omega), if_neg (by omega), if_neg (by omega)]
theorem sh_row {i d : Nat} (hi : i < 8) (hd : d < 2) : rwS (49 + 2 * i) d = shF 0 (49 + 2 * i + d) := by
  have e : i = 0 ∨ i = 1 ∨ i = 2 ∨ i = 3 ∨ i = 4 ∨ i = 5 ∨ i = 6 ∨ i = 7 := by omega
  rcases e with rfl | rfl | rfl | rfl | rfl | rfl | rfl | rfl <;> rcases d2 hd with rfl | rfl <;> rfl
theorem fZ_0 {k : Nat} (h : ¬ (k = 6 ∨ k = 16 ∨ k = 28 ∨ k = 36 ∨ k = 67 ∨ k = 77)) (h2 : k < 49 ∨ 65 ≤ k) (h3 : k ≠ 87) : fZ k = fun _ => 0 := by
  funext j
  unfold fZ
  rw [if_neg (fun q => h q.1), if_neg (by omega), if_neg (fun q => h3 q.1)]
set_option maxRecDepth 100000 in
set_option maxHeartbeats 4000000 in
theorem l_imgs {X : XT} {G : GG} {sh : SH} {f : MM} (C : Cx X G mX8_init 4 84 931 1) (K : Vw X G mX8_init.2.2.2.1 (64 + 10 * 2) (797 + 67 * 2) (QQ X G (Mk 0 85 (fun o d => shF 0 (o + d)) (fun d => fZ d) sh f) 84 931) (65 + 10 * 2) (shQ 8 8 2) fZ 147 [some (.ref (G.1 + 0)), some (.int (nI 2))] []) : ∀ (m i : Nat), i + m = 2 → Vw X G mX8_init.2.2.2.1 (64 + 10 * i) (797 + 67 * i) (QQ X G (Mk 0 85 (fun o d => shF 0 (o + d)) (fun d => fZ d) sh f) 84 931) (65 + 10 * i) (shQ 8 8 i) fZ 119 [some (.ref (G.1 + 0)), some (.int (nI i))] [] := by
  intro m
  induction m with
  | zero =>
    intro i hm
    obtain rfl : 2 = i := by omega
    refine r_iload_n (pc := 119) C dX8_init_119 rfl ?_
    refine r_aload_n (pc := 120) C dX8_init_120 rfl ?_
    refine r_getr (pc := 121) C fX8_32 dX8_init_121 ⟨by omega, rfl⟩ rfl (t := 24) rfl ?_
    refine r_alen (pc := 124) C (2) dX8_init_124 ⟨by omega, Nat.le_of_ble_eq_true rfl, Nat.le_of_ble_eq_true rfl⟩ (n := 2) rfl rfl ?_
    refine q_ge (pc := 125) C 2 2 147 rfl rfl (by omega) (by omega) dX8_init_125 (by decide) (fun c => ?_) (fun c => ?_)
    · exact K
    · exact absurd c (by omega)
  | succ m ih =>
    intro i hm
    refine r_iload_n (pc := 119) C dX8_init_119 rfl ?_
    refine r_aload_n (pc := 120) C dX8_init_120 rfl ?_
    refine r_getr (pc := 121) C fX8_32 dX8_init_121 ⟨by omega, rfl⟩ rfl (t := 24) rfl ?_
    refine r_alen (pc := 124) C (2) dX8_init_124 ⟨by omega, Nat.le_of_ble_eq_true rfl, Nat.le_of_ble_eq_true rfl⟩ (n := 2) rfl rfl ?_
    refine q_ge (pc := 125) C i 2 147 rfl rfl (by omega) (by omega) dX8_init_125 (by decide) (fun c => ?_) (fun c => ?_)
    · exact absurd c (by omega)
    · skip
      refine r_aload_n (pc := 128) C dX8_init_128 rfl ?_
      refine r_getr (pc := 129) C fX8_32 dX8_init_129 ⟨by omega, rfl⟩ rfl (t := 24) rfl ?_
      refine r_iload_n (pc := 132) C dX8_init_132 rfl ?_
      refine r_new (ci := 7) (pc := 133) C wClX8_22 wInX7 wIzX7 rfl inG_X7 tyX7_ok dfX7 dX8_init_133 ⟨by omega, by simp [nfl]; omega⟩ ?_
      refine r_dup (pc := 136) C dX8_init_136 rfl ?_
      refine r_calli (pc := 137) C kX8_24 dX8_init_137 (n_X7 (o := 65 + 10 * i) (va_up_self _ _ _) (va_up_self _ _ _)) rfl rfl (Nat.le_of_ble_eq_true rfl) (by decide) ⟨by omega, by simp [nfl]; omega⟩ (fun r137 N137 s137 f137 h137 => ?_)
      obtain ⟨rfl, rfl, a137, b137⟩ := h137
      refine v_eqW (sh' := shQ 8 8 i) (f' := fZ) (fun k hk => ?_) ?_
      · by_cases e : k < 65 + 10 * i
        · have q := a137 k e
          rw [q.1, q.2, va_up_ne _ _ (by omega), va_up_ne _ _ (by omega)]
          exact ⟨rfl, rfl⟩
        · obtain ⟨d, rfl⟩ : ∃ d, k = 65 + 10 * i + d := ⟨k - (65 + 10 * i), by omega⟩
          have q := b137 d (by omega)
          rw [q.1, q.2]
          have ei : i = 0 ∨ i = 1 := by omega
          have h2 : d < 10 := by omega
          rw [shQ_r (by omega) (by omega) (by omega)]
          rcases ei with rfl | rfl
          · exact ⟨(isW.sh (kn := 0) (o := 65) (Or.inr (Or.inr (Or.inl rfl))) h2).2.symm, fZ_way (Or.inr (Or.inr (Or.inl rfl))) h2⟩
          · exact ⟨(isW.sh (kn := 0) (o := 75) (Or.inr (Or.inr (Or.inr (Or.inl rfl)))) h2).2.symm, fZ_way (Or.inr (Or.inr (Or.inr rfl))) h2⟩
      refine r_aast (pc := 140) (b := 2) (ci := 7) (n := 2) (t := 65 + 10 * i) C dX8_init_140 ⟨by omega, rfl⟩ rfl rfl (vp_in_nI (by omega) (by decide)) ⟨by omega, by rw [shQ_r (by omega) (by omega) (by omega)]; exact (w_0 (isW.img (kn := 0) (i := i) (by omega))).2⟩ rfl ?_
      rw [nI_clamp (show i < 2147483648 by omega)]
      refine v_eqW (sh' := shQ 8 8 (i + 1)) (f' := fZ) (fun k hk => ⟨?_, rfl⟩) ?_
      · by_cases e : k = 24
        · subst e
          rw [va_up_self]
          refine Prod.ext rfl (Prod.ext rfl ?_)
          funext j
          show (if j = i then some (65 + 10 * i) else if j < i then some (65 + 10 * j) else none) = if j < i + 1 then some (65 + 10 * j) else none
          by_cases q : j = i
          · rw [if_pos q, if_pos (by omega), q]
          · rw [if_neg q]
            by_cases q2 : j < i
            · rw [if_pos q2, if_pos (by omega)]
            · rw [if_neg q2, if_neg (by omega)]
        · rw [va_up_ne _ _ e]
          unfold shQ
          simp only [if_neg e]
      refine r_iinc (pc := 141) C (nI (i + 1)) dX8_init_141 rfl (nI_inc _) (by decide) rfl ?_
      refine r_goto (pc := 144) C 119 dX8_init_144 (by decide) ?_
      exact v_cs (by omega) (by simp [nfl]; omega) (v_N (by omega) (ih (i + 1) (by omega)))
set_option maxRecDepth 100000 in
set_option maxHeartbeats 4000000 in
theorem l_rows {X : XT} {G : GG} {sh : SH} {f : MM} (C : Cx X G mX8_init 4 84 931 1) (K : Vw X G mX8_init.2.2.2.1 (48 + 2 * 8) (445 + 44 * 8) (QQ X G (Mk 0 85 (fun o d => shF 0 (o + d)) (fun d => fZ d) sh f) 84 931) (49 + 2 * 8) (shQ 8 8 0) fZ 117 [some (.ref (G.1 + 0)), some (.int (nI 8))] []) : ∀ (m i : Nat), i + m = 8 → Vw X G mX8_init.2.2.2.1 (48 + 2 * i) (445 + 44 * i) (QQ X G (Mk 0 85 (fun o d => shF 0 (o + d)) (fun d => fZ d) sh f) 84 931) (49 + 2 * i) (shQ 8 i 0) fZ 89 [some (.ref (G.1 + 0)), some (.int (nI i))] [] := by
  intro m
  induction m with
  | zero =>
    intro i hm
    obtain rfl : 8 = i := by omega
    refine r_iload_n (pc := 89) C dX8_init_89 rfl ?_
    refine r_aload_n (pc := 90) C dX8_init_90 rfl ?_
    refine r_getr (pc := 91) C fX8_11 dX8_init_91 ⟨by omega, rfl⟩ rfl (t := 1) rfl ?_
    refine r_alen (pc := 94) C (8) dX8_init_94 ⟨by omega, Nat.le_of_ble_eq_true rfl, Nat.le_of_ble_eq_true rfl⟩ (n := 8) rfl rfl ?_
    refine q_ge (pc := 95) C 8 8 117 rfl rfl (by omega) (by omega) dX8_init_95 (by decide) (fun c => ?_) (fun c => ?_)
    · exact K
    · exact absurd c (by omega)
  | succ m ih =>
    intro i hm
    refine r_iload_n (pc := 89) C dX8_init_89 rfl ?_
    refine r_aload_n (pc := 90) C dX8_init_90 rfl ?_
    refine r_getr (pc := 91) C fX8_11 dX8_init_91 ⟨by omega, rfl⟩ rfl (t := 1) rfl ?_
    refine r_alen (pc := 94) C (8) dX8_init_94 ⟨by omega, Nat.le_of_ble_eq_true rfl, Nat.le_of_ble_eq_true rfl⟩ (n := 8) rfl rfl ?_
    refine q_ge (pc := 95) C i 8 117 rfl rfl (by omega) (by omega) dX8_init_95 (by decide) (fun c => ?_) (fun c => ?_)
    · exact absurd c (by omega)
    · skip
      refine r_aload_n (pc := 98) C dX8_init_98 rfl ?_
      refine r_getr (pc := 99) C fX8_11 dX8_init_99 ⟨by omega, rfl⟩ rfl (t := 1) rfl ?_
      refine r_iload_n (pc := 102) C dX8_init_102 rfl ?_
      refine r_new (ci := 5) (pc := 103) C wClX8_9 wInX5 wIzX5 rfl inG_X5 tyX5_ok dfX5 dX8_init_103 ⟨by omega, by simp [nfl]; omega⟩ ?_
      refine r_dup (pc := 106) C dX8_init_106 rfl ?_
      refine r_calli (pc := 107) C kX8_57 dX8_init_107 (n_X5 (o := 49 + 2 * i) (va_up_self _ _ _) (va_up_self _ _ _)) rfl rfl (Nat.le_of_ble_eq_true rfl) (by decide) ⟨by omega, by simp [nfl]; omega⟩ (fun r107 N107 s107 f107 h107 => ?_)
      obtain ⟨rfl, rfl, a107, b107⟩ := h107
      refine v_eqW (sh' := shQ 8 i 0) (f' := fZ) (fun k hk => ?_) ?_
      · by_cases e : k < 49 + 2 * i
        · have q := a107 k e
          rw [q.1, q.2, va_up_ne _ _ (by omega), va_up_ne _ _ (by omega)]
          exact ⟨rfl, rfl⟩
        · obtain ⟨d, rfl⟩ : ∃ d, k = 49 + 2 * i + d := ⟨k - (49 + 2 * i), by omega⟩
          have q := b107 d (by omega)
          rw [q.1, q.2]
          rw [shQ_r (by omega) (by omega) (by omega)]
          exact ⟨sh_row (by omega) (by omega), fZ_row (by omega) (by omega)⟩
      refine r_aast (pc := 110) (b := 0) (ci := 5) (n := 8) (t := 49 + 2 * i) C dX8_init_110 ⟨by omega, rfl⟩ rfl rfl (vp_in_nI (by omega) (by decide)) ⟨by omega, by rw [shQ_r (by omega) (by omega) (by omega)]; exact (x_0 (kn := 0) (r := i) (by omega)).2⟩ rfl ?_
      rw [nI_clamp (show i < 2147483648 by omega)]
      refine v_eqW (sh' := shQ 8 (i + 1) 0) (f' := fZ) (fun k hk => ⟨?_, rfl⟩) ?_
      · by_cases e : k = 1
        · subst e
          rw [va_up_self]
          refine Prod.ext rfl (Prod.ext rfl ?_)
          funext j
          show (if j = i then some (49 + 2 * i) else if j < i then some (49 + 2 * j) else none) = if j < i + 1 then some (49 + 2 * j) else none
          by_cases q : j = i
          · rw [if_pos q, if_pos (by omega), q]
          · rw [if_neg q]
            by_cases q2 : j < i
            · rw [if_pos q2, if_pos (by omega)]
            · rw [if_neg q2, if_neg (by omega)]
        · rw [va_up_ne _ _ e]
          unfold shQ
          simp only [if_neg e]
      refine r_iinc (pc := 111) C (nI (i + 1)) dX8_init_111 rfl (nI_inc _) (by decide) rfl ?_
      refine r_goto (pc := 114) C 89 dX8_init_114 (by decide) ?_
      exact v_cs (by omega) (by simp [nfl]; omega) (v_N (by omega) (ih (i + 1) (by omega)))
set_option maxRecDepth 100000 in
set_option maxHeartbeats 4000000 in
theorem n_X8 {G : GG} {sh : SH} {f : MM} (hsh : sh 0 = (8, 0, fun _ => none)) (hf : f 0 = fun _ => 0) : Ct G mX8_init 4 84 931 [.ref (G.1 + 0)] (1) sh f (Mk 0 85 (fun o d => shF 0 (o + d)) (fun d => fZ d) sh f) := by
  refine Ct.of [some (.ref (G.1 + 0)), none] rfl (by decide +kernel) rfl (Nat.le_of_ble_eq_true rfl) rfl ?_
  intro X C
  refine r_aload_n (pc := 0) C dX8_init_0 rfl ?_
  refine r_objInit (pc := 1) C wObX8 wOi wOc dX8_init_1 (by decide) (Nat.le_of_ble_eq_true rfl) ?_
  refine v_eqW (sh' := shQ 0 0 0) (f' := fZ) (fun k hk => ?_) ?_
  · obtain rfl : k = 0 := by omega
    exact ⟨by rw [hsh]; rfl, by rw [hf]; exact (fZ_0 (by decide) (by decide) (by decide)).symm⟩
  refine r_aload_n (pc := 4) C dX8_init_4 rfl ?_
  refine r_bipush (pc := 5) C (8) dX8_init_5 (by decide) ?_
  refine r_anew (b := 0) (pc := 7) C 8 wClX8_9 (by decide) rfl (by decide) (by decide) (by decide) dX8_init_7 ⟨by omega, by simp [nfl]⟩ ?_
  refine v_eqW (sh' := shQ 0 0 0) (f' := fZ) (fun k hk => ?_) ?_
  · by_cases e : k = 1
    · subst e
      exact ⟨by rw [va_up_self]; rfl, by rw [va_up_self]; exact (fZ_0 (by decide) (by decide) (by decide)).symm⟩
    · rw [va_up_ne _ _ e, va_up_ne _ _ e]
      exact ⟨rfl, rfl⟩
  refine r_putF (pc := 10) C fX8_11 ftrX8_0 dX8_init_10 ⟨by omega, rfl⟩ rfl rfl ⟨TX8, rfl⟩ wPlX8_11 rfl rfl ?_
  refine v_eqW (sh' := shQ 1 0 0) (f' := fZ) (fun k hk => ⟨shQ_put rfl k, rfl⟩) ?_
  refine r_aload_n (pc := 13) C dX8_init_13 rfl ?_
  refine r_new (ci := 4) (pc := 14) C wClX8_15 wInX4 wIzX4 rfl inG_X4 tyX4_ok dfX4 dX8_init_14 ⟨by omega, by simp [nfl]⟩ ?_
  refine r_dup (pc := 17) C dX8_init_17 rfl ?_
  refine r_calli (pc := 18) C kX8_17 dX8_init_18 (n_X4 (o := 2) (va_up_self _ _ _) (va_up_self _ _ _)) rfl rfl (Nat.le_of_ble_eq_true rfl) (by decide) ⟨by omega, by simp [nfl]⟩ (fun r18 N18 s18 f18 h18 => ?_)
  obtain ⟨rfl, rfl, a18, b18⟩ := h18
  refine v_eqW (sh' := shQ 1 0 0) (f' := fZ) (fun k hk => ?_) ?_
  · by_cases e : k < 2
    · have q := a18 k e
      rw [q.1, q.2, va_up_ne _ _ (by omega), va_up_ne _ _ (by omega)]
      exact ⟨rfl, rfl⟩
    · obtain ⟨d, rfl⟩ : ∃ d, k = 2 + d := ⟨k - (2), by omega⟩
      have q := b18 d (by omega)
      rw [q.1, q.2]
      have h2 : d < 2 := by omega
      rcases d2 h2 with rfl | rfl
      · exact ⟨rfl, (fZ_0 (by decide) (by decide) (by decide)).symm⟩
      · exact ⟨rfl, (fZ_0 (by decide) (by decide) (by decide)).symm⟩
  refine r_putF (pc := 21) C fX8_18 ftrX8_1 dX8_init_21 ⟨by omega, rfl⟩ rfl rfl ⟨TX8, rfl⟩ wPlX8_18 rfl rfl ?_
  refine v_eqW (sh' := shQ 2 0 0) (f' := fZ) (fun k hk => ⟨shQ_put rfl k, rfl⟩) ?_
  refine r_aload_n (pc := 24) C dX8_init_24 rfl ?_
  refine r_new (ci := 7) (pc := 25) C wClX8_22 wInX7 wIzX7 rfl inG_X7 tyX7_ok dfX7 dX8_init_25 ⟨by omega, by simp [nfl]⟩ ?_
  refine r_dup (pc := 28) C dX8_init_28 rfl ?_
  refine r_calli (pc := 29) C kX8_24 dX8_init_29 (n_X7 (o := 4) (va_up_self _ _ _) (va_up_self _ _ _)) rfl rfl (Nat.le_of_ble_eq_true rfl) (by decide) ⟨by omega, by simp [nfl]⟩ (fun r29 N29 s29 f29 h29 => ?_)
  obtain ⟨rfl, rfl, a29, b29⟩ := h29
  refine v_eqW (sh' := shQ 2 0 0) (f' := fZ) (fun k hk => ?_) ?_
  · by_cases e : k < 4
    · have q := a29 k e
      rw [q.1, q.2, va_up_ne _ _ (by omega), va_up_ne _ _ (by omega)]
      exact ⟨rfl, rfl⟩
    · obtain ⟨d, rfl⟩ : ∃ d, k = 4 + d := ⟨k - (4), by omega⟩
      have q := b29 d (by omega)
      rw [q.1, q.2]
      have h2 : d < 10 := by omega
      rw [shQ_r (by omega) (by omega) (by omega)]
      exact ⟨(isW.sh (kn := 0) (o := 4) (Or.inl rfl) h2).2.symm, fZ_way (Or.inl rfl) h2⟩
  refine r_putF (pc := 32) C fX8_25 ftrX8_2 dX8_init_32 ⟨by omega, rfl⟩ rfl rfl ⟨TX8, rfl⟩ wPlX8_25 rfl rfl ?_
  refine v_eqW (sh' := shQ 3 0 0) (f' := fZ) (fun k hk => ⟨shQ_put rfl k, rfl⟩) ?_
  refine r_aload_n (pc := 35) C dX8_init_35 rfl ?_
  refine r_new (ci := 7) (pc := 36) C wClX8_22 wInX7 wIzX7 rfl inG_X7 tyX7_ok dfX7 dX8_init_36 ⟨by omega, by simp [nfl]⟩ ?_
  refine r_dup (pc := 39) C dX8_init_39 rfl ?_
  refine r_calli (pc := 40) C kX8_24 dX8_init_40 (n_X7 (o := 14) (va_up_self _ _ _) (va_up_self _ _ _)) rfl rfl (Nat.le_of_ble_eq_true rfl) (by decide) ⟨by omega, by simp [nfl]⟩ (fun r40 N40 s40 f40 h40 => ?_)
  obtain ⟨rfl, rfl, a40, b40⟩ := h40
  refine v_eqW (sh' := shQ 3 0 0) (f' := fZ) (fun k hk => ?_) ?_
  · by_cases e : k < 14
    · have q := a40 k e
      rw [q.1, q.2, va_up_ne _ _ (by omega), va_up_ne _ _ (by omega)]
      exact ⟨rfl, rfl⟩
    · obtain ⟨d, rfl⟩ : ∃ d, k = 14 + d := ⟨k - (14), by omega⟩
      have q := b40 d (by omega)
      rw [q.1, q.2]
      have h2 : d < 10 := by omega
      rw [shQ_r (by omega) (by omega) (by omega)]
      exact ⟨(isW.sh (kn := 0) (o := 14) (Or.inr (Or.inl rfl)) h2).2.symm, fZ_way (Or.inr (Or.inl rfl)) h2⟩
  refine r_putF (pc := 43) C fX8_29 ftrX8_3 dX8_init_43 ⟨by omega, rfl⟩ rfl rfl ⟨TX8, rfl⟩ wPlX8_29 rfl rfl ?_
  refine v_eqW (sh' := shQ 4 0 0) (f' := fZ) (fun k hk => ⟨shQ_put rfl k, rfl⟩) ?_
  refine r_aload_n (pc := 46) C dX8_init_46 rfl ?_
  refine r_iconst (pc := 47) C (2) dX8_init_47 (by decide) ?_
  refine r_anew (b := 2) (pc := 48) C 2 wClX8_22 (by decide) rfl (by decide) (by decide) (by decide) dX8_init_48 ⟨by omega, by simp [nfl]⟩ ?_
  refine v_eqW (sh' := shQ 4 0 0) (f' := fZ) (fun k hk => ?_) ?_
  · by_cases e : k = 24
    · subst e
      exact ⟨by rw [va_up_self]; rfl, by rw [va_up_self]; exact (fZ_0 (by decide) (by decide) (by decide)).symm⟩
    · rw [va_up_ne _ _ e, va_up_ne _ _ e]
      exact ⟨rfl, rfl⟩
  refine r_putF (pc := 51) C fX8_32 ftrX8_4 dX8_init_51 ⟨by omega, rfl⟩ rfl rfl ⟨TX8, rfl⟩ wPlX8_32 rfl rfl ?_
  refine v_eqW (sh' := shQ 5 0 0) (f' := fZ) (fun k hk => ⟨shQ_put rfl k, rfl⟩) ?_
  refine r_aload_n (pc := 54) C dX8_init_54 rfl ?_
  refine r_new (ci := 0) (pc := 55) C wClX8_36 wInX0 wIzX0 rfl inG_X0 tyX0_ok dfX0 dX8_init_55 ⟨by omega, by simp [nfl]⟩ ?_
  refine r_dup (pc := 58) C dX8_init_58 rfl ?_
  refine r_calli (pc := 59) C kX8_38 dX8_init_59 (n_X0 (o := 25) (va_up_self _ _ _) (va_up_self _ _ _)) rfl rfl (Nat.le_of_ble_eq_true rfl) (by decide) ⟨by omega, by simp [nfl]⟩ (fun r59 N59 s59 f59 h59 => ?_)
  obtain ⟨rfl, rfl, a59, b59⟩ := h59
  refine v_eqW (sh' := shQ 5 0 0) (f' := fZ) (fun k hk => ?_) ?_
  · by_cases e : k < 25
    · have q := a59 k e
      rw [q.1, q.2, va_up_ne _ _ (by omega), va_up_ne _ _ (by omega)]
      exact ⟨rfl, rfl⟩
    · obtain ⟨d, rfl⟩ : ∃ d, k = 25 + d := ⟨k - (25), by omega⟩
      have q := b59 d (by omega)
      rw [q.1, q.2]
      have h2 : d < 2 := by omega
      rcases d2 h2 with rfl | rfl
      · exact ⟨rfl, (fZ_0 (by decide) (by decide) (by decide)).symm⟩
      · exact ⟨rfl, (fZ_0 (by decide) (by decide) (by decide)).symm⟩
  refine r_putF (pc := 62) C fX8_39 ftrX8_5 dX8_init_62 ⟨by omega, rfl⟩ rfl rfl ⟨TX8, rfl⟩ wPlX8_39 rfl rfl ?_
  refine v_eqW (sh' := shQ 6 0 0) (f' := fZ) (fun k hk => ⟨shQ_put rfl k, rfl⟩) ?_
  refine r_aload_n (pc := 65) C dX8_init_65 rfl ?_
  refine r_new (ci := 2) (pc := 66) C wClX8_43 wInX2 wIzX2 rfl inG_X2 tyX2_ok dfX2 dX8_init_66 ⟨by omega, by simp [nfl]⟩ ?_
  refine r_dup (pc := 69) C dX8_init_69 rfl ?_
  refine r_calli (pc := 70) C kX8_45 dX8_init_70 (n_X2 (va_up_self _ _ _) (va_up_self _ _ _)) rfl rfl (Nat.le_of_ble_eq_true rfl) (by decide) ⟨by omega, by simp [nfl]⟩ (fun r70 N70 s70 f70 h70 => ?_)
  obtain ⟨rfl, rfl, a70, b70⟩ := h70
  refine v_eqW (sh' := shQ 6 0 0) (f' := fZ) (fun k hk => ?_) ?_
  · by_cases e : k < 27
    · have q := a70 k e
      rw [q.1, q.2, va_up_ne _ _ (by omega), va_up_ne _ _ (by omega)]
      exact ⟨rfl, rfl⟩
    · obtain ⟨d, rfl⟩ : ∃ d, k = 27 + d := ⟨k - (27), by omega⟩
      have q := b70 d (by omega)
      rw [q.1, q.2]
      have h2 : d < 20 := by omega
      have hd : d = 0 ∨ d = 1 ∨ d = 2 ∨ d = 3 ∨ d = 4 ∨ d = 5 ∨ d = 6 ∨ d = 7 ∨ d = 8 ∨ d = 9 ∨ d = 10 ∨ d = 11 ∨ d = 12 ∨ d = 13 ∨ d = 14 ∨ d = 15 ∨ d = 16 ∨ d = 17 ∨ d = 18 ∨ d = 19 := by omega
      refine ⟨?_, ?_⟩
      · rcases hd with rfl | rfl | rfl | rfl | rfl | rfl | rfl | rfl | rfl | rfl | rfl | rfl | rfl | rfl | rfl | rfl | rfl | rfl | rfl | rfl
        · show (2, 0, fun j => if j < 5 then foL j else none) = (2, 0, _)
          congr 2
          funext j
          match j with
          | 0 => rfl
          | 1 => rfl
          | 2 => rfl
          | 3 => rfl
          | 4 => rfl
          | n + 5 => rfl
        all_goals rfl
      · funext j
        unfold fF fZ
        dsimp only
        rw [if_neg (show ¬ 27 + d < 27 by omega)]
        by_cases z : (27 + d = 28 ∨ 27 + d = 36) ∧ j = 2
        · rw [if_pos z, if_pos (by omega)]
        · rw [if_neg z, if_neg (by omega), if_neg (by omega), if_neg (by omega)]
  refine r_putF (pc := 73) C fX8_46 ftrX8_6 dX8_init_73 ⟨by omega, rfl⟩ rfl rfl ⟨TX8, rfl⟩ wPlX8_46 rfl rfl ?_
  refine v_eqW (sh' := shQ 7 0 0) (f' := fZ) (fun k hk => ⟨shQ_put rfl k, rfl⟩) ?_
  refine r_aload_n (pc := 76) C dX8_init_76 rfl ?_
  refine r_new (ci := 1) (pc := 77) C wClX8_50 wInX1 wIzX1 rfl inG_X1 tyX1_ok dfX1 dX8_init_77 ⟨by omega, by simp [nfl]⟩ ?_
  refine r_dup (pc := 80) C dX8_init_80 rfl ?_
  refine r_calli (pc := 81) C kX8_52 dX8_init_81 (n_X1 (o := 47) (va_up_self _ _ _) (va_up_self _ _ _)) rfl rfl (Nat.le_of_ble_eq_true rfl) (by decide) ⟨by omega, by simp [nfl]⟩ (fun r81 N81 s81 f81 h81 => ?_)
  obtain ⟨rfl, rfl, a81, b81⟩ := h81
  refine v_eqW (sh' := shQ 7 0 0) (f' := fZ) (fun k hk => ?_) ?_
  · by_cases e : k < 47
    · have q := a81 k e
      rw [q.1, q.2, va_up_ne _ _ (by omega), va_up_ne _ _ (by omega)]
      exact ⟨rfl, rfl⟩
    · obtain ⟨d, rfl⟩ : ∃ d, k = 47 + d := ⟨k - (47), by omega⟩
      have q := b81 d (by omega)
      rw [q.1, q.2]
      have h2 : d < 2 := by omega
      rcases d2 h2 with rfl | rfl
      · exact ⟨rfl, (fZ_0 (by decide) (by decide) (by decide)).symm⟩
      · exact ⟨rfl, (fZ_0 (by decide) (by decide) (by decide)).symm⟩
  refine r_putF (pc := 84) C fX8_53 ftrX8_7 dX8_init_84 ⟨by omega, rfl⟩ rfl rfl ⟨TX8, rfl⟩ wPlX8_53 rfl rfl ?_
  refine v_eqW (sh' := shQ 8 0 0) (f' := fZ) (fun k hk => ⟨shQ_put rfl k, rfl⟩) ?_
  refine r_iconst (pc := 87) C (0) dX8_init_87 (by decide) ?_
  refine r_istore_n (pc := 88) C dX8_init_88 (by decide) rfl ?_
  refine v_cs (cs' := 48 + 2 * 0) (sl' := 445 + 44 * 0) (by simp) (by simp [nfl]) (l_rows C ?_ 8 0 (by omega))
  refine r_iconst (pc := 117) C (0) dX8_init_117 (by decide) ?_
  refine r_istore_n (pc := 118) C dX8_init_118 (by decide) rfl ?_
  refine v_cs (cs' := 64 + 10 * 0) (sl' := 797 + 67 * 0) (by omega) (by omega) (v_N (by omega) (l_imgs C ?_ 2 0 (by omega)))
  refine r_vret (pc := 147) C dX8_init_147 rfl ⟨by omega, by omega⟩ ?_
  refine ⟨rfl, rfl, fun k hk => by omega, fun d hd => ⟨?_, by rw [Nat.zero_add]⟩⟩
  show shQ 8 8 2 (0 + d) = shF 0 (0 + d)
  rw [Nat.zero_add]
  by_cases h0 : d = 0
  · subst h0
    show (8, 0, fun j => if j < 8 then lrL j else none) = (8, 0, _)
    congr 2
    funext j
    match j with
    | 0 => rfl
    | 1 => rfl
    | 2 => rfl
    | 3 => rfl
    | 4 => rfl
    | 5 => rfl
    | 6 => rfl
    | 7 => rfl
    | n + 8 => rfl
  · by_cases h1 : d = 1
    · subst h1; rfl
    · by_cases h2 : d = 24
      · subst h2; rfl
      · exact shQ_r h0 h1 h2
def mTg (i j : Nat) : Option Nat := match refTg j with
  | some t => if t < 86 + i then some t else none
  | none => none
def mSh (sh : SH) (i : Nat) : SH := fun k => if k < 85 then sh k else if k = 85 then (9, 0, mTg i) else shF 0 k
def mF (f : MM) (i : Nat) : MM := fun k => if k < 85 then f k else fun j => if k = 87 ∧ j < i then -1 else 0
def mJ (i : Nat) : Nat := [0, 1, 2, 5, 6, 7, 15, 17, 19, 20, 21, 22, 23, 24, 25, 26].getD i 0
theorem mTg_28 : ∀ i, i < 16 → ∀ j, j < 28 → mTg (i + 1) j = if j = mJ i then some (86 + i) else mTg i j := by decide
theorem mTg_st {i : Nat} (hi : i < 16) : va_up (mTg i) (mJ i) (some (86 + i)) = mTg (i + 1) := by
  funext j
  show (if j = mJ i then some (86 + i) else mTg i j) = mTg (i + 1) j
  by_cases h : j < 28
  · rw [mTg_28 i hi j h]
  · obtain ⟨n, rfl⟩ : ∃ n, j = n + 28 := ⟨j - 28, by omega⟩
    have e : mJ i < 28 := by
      have q : ∀ i, i < 16 → mJ i < 28 := by decide
      exact q i hi
    rw [if_neg (by omega)]
    rfl
theorem mSh_put {sh : SH} {i : Nat} (hi : i < 16) (k : Nat) : va_up (mSh sh i) 85 (9, (mSh sh i 85).2.1, va_up (mSh sh i 85).2.2 (mJ i) (some (86 + i))) k = mSh sh (i + 1) k := by
  by_cases e : k = 85
  · subst e
    rw [va_up_self]
    show (9, 0, va_up (mTg i) (mJ i) (some (86 + i))) = (9, 0, mTg (i + 1))
    rw [mTg_st hi]
  · rw [va_up_ne _ _ e]
    unfold mSh
    rw [if_neg e, if_neg e]
theorem mSh_new {sh : SH} {f : MM} {i N : Nat} {q : Nat × Nat × (Nat → Option Nat)} (hN : N = 86 + i) (hq : q = shF 0 N) (k : Nat) : va_up (mSh sh i) N q k = mSh sh i k ∧ va_up (mF f 0) N (fun _ => 0) k = mF f 0 k := by
  by_cases e : k = N
  · subst e
    rw [va_up_self, va_up_self]
    refine ⟨?_, ?_⟩
    · unfold mSh
      rw [if_neg (by omega), if_neg (by omega), hq]
    · funext j
      unfold mF
      rw [if_neg (by omega), if_neg (by omega)]
  · rw [va_up_ne _ _ e, va_up_ne _ _ e]
    exact ⟨rfl, rfl⟩
set_option maxRecDepth 100000 in
set_option maxHeartbeats 4000000 in
theorem l_X9_init {X : XT} {G : GG} {sh : SH} {f : MM} (C : Cx X G mX9_init 1 16 2162 86) : ∀ (m i : Nat), i + m = 8 → Vw X G mX9_init.2.2.2.1 16 2162 (QQ X G (Mk 85 17 (fun o d => shF 0 (o + d)) (fun d => fZ (85 + d)) sh f) 16 2162) 102 (mSh sh 16) (mF f i) 135 [some (.ref (G.1 + 85)), some (.int (nI i))] [] := by
  intro m
  induction m with
  | zero =>
    intro i hm
    obtain rfl : 8 = i := by omega
    refine r_iload_n (pc := 135) C dX9_init_135 rfl ?_
    refine r_bipush (pc := 136) C (8) dX9_init_136 (by decide) ?_
    refine q_ge (pc := 138) C 8 8 154 rfl rfl (by omega) (by omega) dX9_init_138 (by decide) (fun c => ?_) (fun c => ?_)
    · skip
      refine r_vret (pc := 154) C dX9_init_154 rfl ⟨by omega, by omega⟩ ?_
      refine ⟨rfl, rfl, fun k hk => ⟨by simp [mSh, hk], by simp [mF, hk]⟩, fun d hd => ⟨?_, ?_⟩⟩
      · by_cases e : d = 0
        · subst e
          show (9, 0, mTg 16) = (9, 0, refTg)
          congr 2
          funext j
          by_cases h : j < 28
          · have q : ∀ j, j < 28 → mTg 16 j = refTg j := by decide
            exact q j h
          · obtain ⟨n, rfl⟩ : ∃ n, j = n + 28 := ⟨j - 28, by omega⟩
            rfl
        · unfold mSh
          rw [if_neg (by omega), if_neg (by omega)]
      · funext j
        unfold mF fZ
        rw [if_neg (show ¬ 85 + d < 85 by omega)]
        dsimp only
        by_cases e : 85 + d = 87 ∧ j < 8
        · rw [if_pos e, if_neg (by omega), if_neg (by omega)]
        · rw [if_neg e, if_neg (by omega), if_neg (by omega)]
    · exact absurd c (by omega)
  | succ m ih =>
    intro i hm
    refine r_iload_n (pc := 135) C dX9_init_135 rfl ?_
    refine r_bipush (pc := 136) C (8) dX9_init_136 (by decide) ?_
    refine q_ge (pc := 138) C i 8 154 rfl rfl (by omega) (by omega) dX9_init_138 (by decide) (fun c => ?_) (fun c => ?_)
    · exact absurd c (by omega)
    · skip
      refine r_aload_n (pc := 141) C dX9_init_141 rfl ?_
      refine r_getr (pc := 142) C fX9_13 dX9_init_142 ⟨by omega, rfl⟩ rfl (t := 87) rfl ?_
      refine r_iload_n (pc := 145) C dX9_init_145 rfl ?_
      refine r_iconst (pc := 146) C (-1) dX9_init_146 (by decide) ?_
      refine q_iast (pc := 147) C i dX9_init_147 ⟨by omega, rfl⟩ (len := 8) rfl rfl (by omega) (by decide) ?_
      refine r_iinc (pc := 148) C (nI (i + 1)) dX9_init_148 rfl (nI_inc _) (by decide) rfl ?_
      refine r_goto (pc := 151) C 135 dX9_init_151 (by decide) ?_
      refine q_f (f' := mF f (i + 1)) ?_ (ih (i + 1) (by omega))
      funext k j
      simp only [u2, mF]
      by_cases e : k = 87 ∧ j = i
      · rw [if_pos e, if_neg (by omega), if_pos (by omega)]
      · rw [if_neg e]
        by_cases h : k < 85
        · rw [if_pos h, if_pos h]
        · rw [if_neg h, if_neg h]
          by_cases g : k = 87 ∧ j < i
          · rw [if_pos g, if_pos (by omega)]
          · rw [if_neg g, if_neg (by omega)]
set_option maxRecDepth 100000 in
set_option maxHeartbeats 4000000 in
theorem n_X9 {G : GG} {sh : SH} {f : MM} (hsh : sh 85 = (9, 0, fun _ => none)) (hf : f 85 = fun _ => 0) : Ct G mX9_init 1 16 2162 [.ref (G.1 + 85)] (86) sh f (Mk 85 17 (fun o d => shF 0 (o + d)) (fun d => fZ (85 + d)) sh f) := by
  refine Ct.of [some (.ref (G.1 + 85)), none] rfl (by decide +kernel) rfl (Nat.le_of_ble_eq_true rfl) rfl ?_
  intro X C
  refine r_aload_n (pc := 0) C dX9_init_0 rfl ?_
  refine r_objInit (pc := 1) C wObX9 wOi wOc dX9_init_1 (by decide) (Nat.le_of_ble_eq_true rfl) ?_
  refine v_eqW (sh' := mSh sh 0) (f' := mF f 0) (fun k hk => ?_) ?_
  · by_cases e : k = 85
    · subst e
      refine ⟨?_, ?_⟩
      · rw [hsh]
        show (9, 0, _) = (9, 0, mTg 0)
        congr 2
        funext j
        by_cases h : j < 28
        · have q : ∀ j, j < 28 → none = mTg 0 j := by decide
          exact q j h
        · obtain ⟨n, rfl⟩ : ∃ n, j = n + 28 := ⟨j - 28, by omega⟩
          rfl
      · rw [hf]; funext j; simp [mF]
    · have h : k < 85 := by omega
      exact ⟨by simp [mSh, h], by simp [mF, h]⟩
  refine r_aload_n (pc := 4) C dX9_init_4 rfl ?_
  refine r_bipush (pc := 5) C (8) dX9_init_5 (by decide) ?_
  refine r_newi (pc := 7) C 8 wAi (by decide) (by decide) (by decide) dX9_init_7 ⟨by omega, by omega⟩ ?_
  refine v_eqW (sh' := mSh sh 0) (f' := mF f 0) (fun k hk => mSh_new (i := 0) rfl rfl k) ?_
  refine r_putF (pc := 9) C fX9_7 ftrX9_0 dX9_init_9 ⟨by omega, rfl⟩ rfl rfl ⟨TX9, rfl⟩ wPlX9_7 rfl rfl ?_
  refine v_eqW (sh' := mSh sh 1) (f' := mF f 0) (fun k hk => ⟨mSh_put (i := 0) (by decide) k, rfl⟩) ?_
  refine r_aload_n (pc := 12) C dX9_init_12 rfl ?_
  refine r_bipush (pc := 13) C (8) dX9_init_13 (by decide) ?_
  refine r_newi (pc := 15) C 8 wAi (by decide) (by decide) (by decide) dX9_init_15 ⟨by omega, by omega⟩ ?_
  refine v_eqW (sh' := mSh sh 1) (f' := mF f 0) (fun k hk => mSh_new (i := 1) rfl rfl k) ?_
  refine r_putF (pc := 17) C fX9_13 ftrX9_1 dX9_init_17 ⟨by omega, rfl⟩ rfl rfl ⟨TX9, rfl⟩ wPlX9_13 rfl rfl ?_
  refine v_eqW (sh' := mSh sh 2) (f' := mF f 0) (fun k hk => ⟨mSh_put (i := 1) (by decide) k, rfl⟩) ?_
  refine r_aload_n (pc := 20) C dX9_init_20 rfl ?_
  refine r_sipush (pc := 21) C (320) dX9_init_21 (by decide) ?_
  refine r_newi (pc := 24) C 320 wAi (by decide) (by decide) (by decide) dX9_init_24 ⟨by omega, by omega⟩ ?_
  refine v_eqW (sh' := mSh sh 2) (f' := mF f 0) (fun k hk => mSh_new (i := 2) rfl rfl k) ?_
  refine r_putF (pc := 26) C fX9_16 ftrX9_2 dX9_init_26 ⟨by omega, rfl⟩ rfl rfl ⟨TX9, rfl⟩ wPlX9_16 rfl rfl ?_
  refine v_eqW (sh' := mSh sh 3) (f' := mF f 0) (fun k hk => ⟨mSh_put (i := 2) (by decide) k, rfl⟩) ?_
  refine r_aload_n (pc := 29) C dX9_init_29 rfl ?_
  refine r_bipush (pc := 30) C (56) dX9_init_30 (by decide) ?_
  refine r_newi (pc := 32) C 56 wAi (by decide) (by decide) (by decide) dX9_init_32 ⟨by omega, by omega⟩ ?_
  refine v_eqW (sh' := mSh sh 3) (f' := mF f 0) (fun k hk => mSh_new (i := 3) rfl rfl k) ?_
  refine r_putF (pc := 34) C fX9_19 ftrX9_5 dX9_init_34 ⟨by omega, rfl⟩ rfl rfl ⟨TX9, rfl⟩ wPlX9_19 rfl rfl ?_
  refine v_eqW (sh' := mSh sh 4) (f' := mF f 0) (fun k hk => ⟨mSh_put (i := 3) (by decide) k, rfl⟩) ?_
  refine r_aload_n (pc := 37) C dX9_init_37 rfl ?_
  refine r_bipush (pc := 38) C (40) dX9_init_38 (by decide) ?_
  refine r_newi (pc := 40) C 40 wAi (by decide) (by decide) (by decide) dX9_init_40 ⟨by omega, by omega⟩ ?_
  refine v_eqW (sh' := mSh sh 4) (f' := mF f 0) (fun k hk => mSh_new (i := 4) rfl rfl k) ?_
  refine r_putF (pc := 42) C fX9_22 ftrX9_6 dX9_init_42 ⟨by omega, rfl⟩ rfl rfl ⟨TX9, rfl⟩ wPlX9_22 rfl rfl ?_
  refine v_eqW (sh' := mSh sh 5) (f' := mF f 0) (fun k hk => ⟨mSh_put (i := 4) (by decide) k, rfl⟩) ?_
  refine r_aload_n (pc := 45) C dX9_init_45 rfl ?_
  refine r_bipush (pc := 46) C (120) dX9_init_46 (by decide) ?_
  refine r_newi (pc := 48) C 120 wAi (by decide) (by decide) (by decide) dX9_init_48 ⟨by omega, by omega⟩ ?_
  refine v_eqW (sh' := mSh sh 5) (f' := mF f 0) (fun k hk => mSh_new (i := 5) rfl rfl k) ?_
  refine r_putF (pc := 50) C fX9_25 ftrX9_7 dX9_init_50 ⟨by omega, rfl⟩ rfl rfl ⟨TX9, rfl⟩ wPlX9_25 rfl rfl ?_
  refine v_eqW (sh' := mSh sh 6) (f' := mF f 0) (fun k hk => ⟨mSh_put (i := 5) (by decide) k, rfl⟩) ?_
  refine r_aload_n (pc := 53) C dX9_init_53 rfl ?_
  refine r_bipush (pc := 54) C (56) dX9_init_54 (by decide) ?_
  refine r_newi (pc := 56) C 56 wAi (by decide) (by decide) (by decide) dX9_init_56 ⟨by omega, by omega⟩ ?_
  refine v_eqW (sh' := mSh sh 6) (f' := mF f 0) (fun k hk => mSh_new (i := 6) rfl rfl k) ?_
  refine r_putF (pc := 58) C fX9_28 ftrX9_15 dX9_init_58 ⟨by omega, rfl⟩ rfl rfl ⟨TX9, rfl⟩ wPlX9_28 rfl rfl ?_
  refine v_eqW (sh' := mSh sh 7) (f' := mF f 0) (fun k hk => ⟨mSh_put (i := 6) (by decide) k, rfl⟩) ?_
  refine r_aload_n (pc := 61) C dX9_init_61 rfl ?_
  refine r_sipush (pc := 62) C (1344) dX9_init_62 (by decide) ?_
  refine r_newi (pc := 65) C 1344 wAi (by decide) (by decide) (by decide) dX9_init_65 ⟨by omega, by omega⟩ ?_
  refine v_eqW (sh' := mSh sh 7) (f' := mF f 0) (fun k hk => mSh_new (i := 7) rfl rfl k) ?_
  refine r_putF (pc := 67) C fX9_31 ftrX9_17 dX9_init_67 ⟨by omega, rfl⟩ rfl rfl ⟨TX9, rfl⟩ wPlX9_31 rfl rfl ?_
  refine v_eqW (sh' := mSh sh 8) (f' := mF f 0) (fun k hk => ⟨mSh_put (i := 7) (by decide) k, rfl⟩) ?_
  refine r_aload_n (pc := 70) C dX9_init_70 rfl ?_
  refine r_bipush (pc := 71) C (56) dX9_init_71 (by decide) ?_
  refine r_newi (pc := 73) C 56 wAi (by decide) (by decide) (by decide) dX9_init_73 ⟨by omega, by omega⟩ ?_
  refine v_eqW (sh' := mSh sh 8) (f' := mF f 0) (fun k hk => mSh_new (i := 8) rfl rfl k) ?_
  refine r_putF (pc := 75) C fX9_34 ftrX9_19 dX9_init_75 ⟨by omega, rfl⟩ rfl rfl ⟨TX9, rfl⟩ wPlX9_34 rfl rfl ?_
  refine v_eqW (sh' := mSh sh 9) (f' := mF f 0) (fun k hk => ⟨mSh_put (i := 8) (by decide) k, rfl⟩) ?_
  refine r_aload_n (pc := 78) C dX9_init_78 rfl ?_
  refine r_bipush (pc := 79) C (6) dX9_init_79 (by decide) ?_
  refine r_newi (pc := 81) C 6 wAi (by decide) (by decide) (by decide) dX9_init_81 ⟨by omega, by omega⟩ ?_
  refine v_eqW (sh' := mSh sh 9) (f' := mF f 0) (fun k hk => mSh_new (i := 9) rfl rfl k) ?_
  refine r_putF (pc := 83) C fX9_37 ftrX9_20 dX9_init_83 ⟨by omega, rfl⟩ rfl rfl ⟨TX9, rfl⟩ wPlX9_37 rfl rfl ?_
  refine v_eqW (sh' := mSh sh 10) (f' := mF f 0) (fun k hk => ⟨mSh_put (i := 9) (by decide) k, rfl⟩) ?_
  refine r_aload_n (pc := 86) C dX9_init_86 rfl ?_
  refine r_bipush (pc := 87) C (6) dX9_init_87 (by decide) ?_
  refine r_newi (pc := 89) C 6 wAi (by decide) (by decide) (by decide) dX9_init_89 ⟨by omega, by omega⟩ ?_
  refine v_eqW (sh' := mSh sh 10) (f' := mF f 0) (fun k hk => mSh_new (i := 10) rfl rfl k) ?_
  refine r_putF (pc := 91) C fX9_40 ftrX9_21 dX9_init_91 ⟨by omega, rfl⟩ rfl rfl ⟨TX9, rfl⟩ wPlX9_40 rfl rfl ?_
  refine v_eqW (sh' := mSh sh 11) (f' := mF f 0) (fun k hk => ⟨mSh_put (i := 10) (by decide) k, rfl⟩) ?_
  refine r_aload_n (pc := 94) C dX9_init_94 rfl ?_
  refine r_bipush (pc := 95) C (6) dX9_init_95 (by decide) ?_
  refine r_newi (pc := 97) C 6 wAi (by decide) (by decide) (by decide) dX9_init_97 ⟨by omega, by omega⟩ ?_
  refine v_eqW (sh' := mSh sh 11) (f' := mF f 0) (fun k hk => mSh_new (i := 11) rfl rfl k) ?_
  refine r_putF (pc := 99) C fX9_43 ftrX9_22 dX9_init_99 ⟨by omega, rfl⟩ rfl rfl ⟨TX9, rfl⟩ wPlX9_43 rfl rfl ?_
  refine v_eqW (sh' := mSh sh 12) (f' := mF f 0) (fun k hk => ⟨mSh_put (i := 11) (by decide) k, rfl⟩) ?_
  refine r_aload_n (pc := 102) C dX9_init_102 rfl ?_
  refine r_bipush (pc := 103) C (6) dX9_init_103 (by decide) ?_
  refine r_newi (pc := 105) C 6 wAi (by decide) (by decide) (by decide) dX9_init_105 ⟨by omega, by omega⟩ ?_
  refine v_eqW (sh' := mSh sh 12) (f' := mF f 0) (fun k hk => mSh_new (i := 12) rfl rfl k) ?_
  refine r_putF (pc := 107) C fX9_46 ftrX9_23 dX9_init_107 ⟨by omega, rfl⟩ rfl rfl ⟨TX9, rfl⟩ wPlX9_46 rfl rfl ?_
  refine v_eqW (sh' := mSh sh 13) (f' := mF f 0) (fun k hk => ⟨mSh_put (i := 12) (by decide) k, rfl⟩) ?_
  refine r_aload_n (pc := 110) C dX9_init_110 rfl ?_
  refine r_iconst (pc := 111) C (2) dX9_init_111 (by decide) ?_
  refine r_newz (pc := 112) C 2 wAz (by decide) (by decide) (by decide) dX9_init_112 ⟨by omega, by omega⟩ ?_
  refine v_eqW (sh' := mSh sh 13) (f' := mF f 0) (fun k hk => mSh_new (i := 13) rfl rfl k) ?_
  refine r_putF (pc := 114) C fX9_49 ftrX9_24 dX9_init_114 ⟨by omega, rfl⟩ rfl rfl ⟨TX9, rfl⟩ wPlX9_49 rfl rfl ?_
  refine v_eqW (sh' := mSh sh 14) (f' := mF f 0) (fun k hk => ⟨mSh_put (i := 13) (by decide) k, rfl⟩) ?_
  refine r_aload_n (pc := 117) C dX9_init_117 rfl ?_
  refine r_bipush (pc := 118) C (112) dX9_init_118 (by decide) ?_
  refine r_newi (pc := 120) C 112 wAi (by decide) (by decide) (by decide) dX9_init_120 ⟨by omega, by omega⟩ ?_
  refine v_eqW (sh' := mSh sh 14) (f' := mF f 0) (fun k hk => mSh_new (i := 14) rfl rfl k) ?_
  refine r_putF (pc := 122) C fX9_53 ftrX9_25 dX9_init_122 ⟨by omega, rfl⟩ rfl rfl ⟨TX9, rfl⟩ wPlX9_53 rfl rfl ?_
  refine v_eqW (sh' := mSh sh 15) (f' := mF f 0) (fun k hk => ⟨mSh_put (i := 14) (by decide) k, rfl⟩) ?_
  refine r_aload_n (pc := 125) C dX9_init_125 rfl ?_
  refine r_bipush (pc := 126) C (16) dX9_init_126 (by decide) ?_
  refine r_newi (pc := 128) C 16 wAi (by decide) (by decide) (by decide) dX9_init_128 ⟨by omega, by omega⟩ ?_
  refine v_eqW (sh' := mSh sh 15) (f' := mF f 0) (fun k hk => mSh_new (i := 15) rfl rfl k) ?_
  refine r_putF (pc := 130) C fX9_56 ftrX9_26 dX9_init_130 ⟨by omega, rfl⟩ rfl rfl ⟨TX9, rfl⟩ wPlX9_56 rfl rfl ?_
  refine v_eqW (sh' := mSh sh 16) (f' := mF f 0) (fun k hk => ⟨mSh_put (i := 15) (by decide) k, rfl⟩) ?_
  refine r_iconst (pc := 133) C (0) dX9_init_133 (by decide) ?_
  refine r_istore_n (pc := 134) C dX9_init_134 (by decide) rfl ?_
  exact l_X9_init C 8 0 (by omega)
