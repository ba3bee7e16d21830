/-! TEXTS: the class's reader, token by token -/
def agQ (f g : MM) : Prop := ∀ k b, ¬ (k = 2 ∧ 2 ≤ b ∧ b ≤ 7) → g k b = f k b
theorem agQ.rf {f : MM} : agQ f f := fun _ _ _ => rfl
theorem agQ.tr {f g h : MM} (h1 : agQ f g) (h2 : agQ g h) : agQ f h := fun k b hk => (h2 k b hk).trans (h1 k b hk)
theorem agQ.put {f g : MM} (h : agQ f g) {b : Nat} {v : Int32} (h1 : 2 ≤ b) (h2 : b ≤ 7) : agQ f (u2 g 2 b v) := fun k t hk => by
  rw [← h k t hk]
  simp only [u2]
  rw [if_neg (by omega)]
theorem agQ.row {f g : MM} (h : agQ f g) {k : Nat} (hk : k ≠ 2) : g k = f k := by
  funext b
  exact h k b (fun q => hk q.1)
def tkC (tp : Nat → Int32) (len p : Nat) : Int32 := if knd tp len p = 3 then -1 else if knd tp len p = 2 then -3 else if knd tp len p = 1 then vl tp len p else -2
/-- the class's reader stands at p, and has found no fault -/
def AtC (tp : Nat → Int32) (len : Nat) (f : MM) (p : Nat) : Prop := len ≤ 120 ∧ f 3 = tp ∧ f 2 1 = nI len ∧ p ≤ len ∧ nx tp len p ≤ len ∧ f 2 2 = nI (nx tp len p) ∧ f 2 3 = tkC tp len p ∧ (knd tp len p = 2 → f 2 5 = vl tp len p) ∧ f 2 4 = nI p ∧ f 2 6 = 0
section AC
variable {tp : Nat → Int32} {len p : Nat} {f : MM}
theorem AtC.hlen (h : AtC tp len f p) : len ≤ 120 := h.1
theorem AtC.tap (h : AtC tp len f p) : f 3 = tp := h.2.1
theorem AtC.ln (h : AtC tp len f p) : f 2 1 = nI len := h.2.2.1
theorem AtC.nxl (h : AtC tp len f p) : nx tp len p ≤ len := h.2.2.2.2.1
theorem AtC.nxt (h : AtC tp len f p) : f 2 2 = nI (nx tp len p) := h.2.2.2.2.2.1
theorem AtC.tk (h : AtC tp len f p) : f 2 3 = tkC tp len p := h.2.2.2.2.2.2.1
theorem AtC.nm (h : AtC tp len f p) : knd tp len p = 2 → f 2 5 = vl tp len p := h.2.2.2.2.2.2.2.1
theorem AtC.at (h : AtC tp len f p) : f 2 4 = nI p := h.2.2.2.2.2.2.2.2.1
theorem AtC.ok (h : AtC tp len f p) : f 2 6 = 0 := h.2.2.2.2.2.2.2.2.2
end AC
theorem knd1 {tp : Nat → Int32} {len p : Nat} (h : knd tp len p = 1) : sgn (vl tp len p) = true := by
  unfold knd at h
  unfold vl
  split at h
  · omega
  · split at h
    · split at h <;> omega
    · rename_i h2
      rw [if_neg h2]
      split at h
      · assumption
      · omega
theorem sgn_pos {c : Int32} (h : sgn c = true) : 44 ≤ c.toInt := by
  unfold sgn at h
  rw [Bool.or_eq_true, Bool.or_eq_true, decide_eq_true_iff, decide_eq_true_iff, decide_eq_true_iff] at h
  rcases h with (h | h) | h
  · have := ti_le.mp h.1
    have z : (97 : Int32).toInt = 97 := by decide
    omega
  · rw [h]; decide
  · rw [h]; decide
theorem tkC_neg {tp : Nat → Int32} {len p : Nat} : (knd tp len p = 1 ∧ tkC tp len p = vl tp len p ∧ 44 ≤ (tkC tp len p).toInt) ∨ (knd tp len p ≠ 1 ∧ (tkC tp len p).toInt < 0) := by
  have h3 := knd_le (tp := tp) (len := len) (p := p)
  by_cases h : knd tp len p = 1
  · left
    have e : tkC tp len p = vl tp len p := by unfold tkC; rw [if_neg (by omega), if_neg (by omega), if_pos h]
    exact ⟨h, e, by rw [e]; exact sgn_pos (knd1 h)⟩
  · right
    refine ⟨h, ?_⟩
    unfold tkC
    split
    · decide
    · split
      · decide
      · first | decide | (rw [if_neg h]; decide)
theorem tkC_is {tp : Nat → Int32} {len p : Nat} {c : Int32} (hc : 0 ≤ c.toInt) : tkC tp len p = c ↔ isT tp len p c = true := by
  unfold isT
  rw [decide_eq_true_iff]
  rcases tkC_neg (tp := tp) (len := len) (p := p) with h | h
  · rw [h.2.1]
    exact ⟨fun q => ⟨h.1, q⟩, fun q => q.2⟩
  · exact ⟨fun q => by rw [q] at h; omega, fun q => absurd q.1 h.1⟩
theorem tkC_n {tp : Nat → Int32} {len p : Nat} : tkC tp len p = -3 ↔ knd tp len p = 2 := by
  rcases tkC_neg (tp := tp) (len := len) (p := p) with h | h
  · have z : (-3 : Int32).toInt = -3 := by decide
    exact ⟨fun q => by rw [q] at h; omega, fun q => by omega⟩
  · unfold tkC
    by_cases a : knd tp len p = 3
    · rw [if_pos a, a]; decide
    · rw [if_neg a]
      by_cases b : knd tp len p = 2
      · rw [if_pos b, b]; decide
      · rw [if_neg b, if_neg h.1]
        exact ⟨fun q => absurd q (by decide), fun q => absurd q b⟩
theorem tkC_e {tp : Nat → Int32} {len p : Nat} : tkC tp len p = -1 ↔ knd tp len p = 3 := by
  rcases tkC_neg (tp := tp) (len := len) (p := p) with h | h
  · have z : (-1 : Int32).toInt = -1 := by decide
    exact ⟨fun q => by rw [q] at h; omega, fun q => by omega⟩
  · unfold tkC
    by_cases a : knd tp len p = 3
    · rw [if_pos a, a]; decide
    · rw [if_neg a]
      by_cases b : knd tp len p = 2
      · rw [if_pos b, b]; decide
      · rw [if_neg b, if_neg h.1]
        exact ⟨fun q => absurd q (by decide), fun q => absurd q a⟩
theorem sort_neg {c : Int32} (h : c.toInt < 0) : sortK c = 0 := by
  unfold sortK
  rw [if_neg (fun q => by rw [q] at h; exact absurd h (by decide)), if_neg (fun q => by rw [q] at h; exact absurd h (by decide)), if_neg (fun q => by rw [q] at h; exact absurd h (by decide)), if_neg (fun q => by rw [q] at h; exact absurd h (by decide)), if_neg (fun q => by rw [q] at h; exact absurd h (by decide))]
theorem sort_tk {tp : Nat → Int32} {len p : Nat} : sortK (tkC tp len p) = kdS tp len p := by
  unfold kdS
  rcases tkC_neg (tp := tp) (len := len) (p := p) with h | h
  · rw [if_pos h.1, h.2.1]
  · rw [if_neg h.1, sort_neg h.2]
set_option maxRecDepth 100000 in
set_option maxHeartbeats 4000000 in
theorem c_X4_isFigure {G : GG} {kn : Nat} {f : MM} {a : Int32} : CI G mX4_isFigure 1 kn [.int a] f (b1 (dig a)) f := by
  refine Ct.of [some (.int a)] rfl (by decide +kernel) rfl (Nat.le_of_ble_eq_true rfl) rfl ?_
  intro X C
  refine r_iload_n (pc := 0) C dX4_isFigure_0 rfl ?_
  refine r_bipush (pc := 1) C (48) dX4_isFigure_1 (by decide) ?_
  refine r_icmp_lt (pc := 3) C 16 dX4_isFigure_3 (by decide) (fun c3 => ?_) (fun c3 => ?_)
  · refine r_iconst (pc := 16) C (0) dX4_isFigure_16 (by decide) ?_
    refine q_zret (pc := 17) C dX4_isFigure_17 rfl (by first | exact Or.inl rfl | exact Or.inr rfl) ?_
    first | exact ⟨b1t ⟨Int32.not_lt.mp c3, Int32.not_lt.mp c9⟩, rfl⟩ | exact ⟨b1f (fun q => absurd c3 (Int32.not_lt.mpr q.1)), rfl⟩ | exact ⟨b1f (fun q => absurd c9 (Int32.not_lt.mpr q.2)), rfl⟩
  · refine r_iload_n (pc := 6) C dX4_isFigure_6 rfl ?_
    refine r_bipush (pc := 7) C (57) dX4_isFigure_7 (by decide) ?_
    refine r_icmp_gt (pc := 9) C 16 dX4_isFigure_9 (by decide) (fun c9 => ?_) (fun c9 => ?_)
    · refine r_iconst (pc := 16) C (0) dX4_isFigure_16 (by decide) ?_
      refine q_zret (pc := 17) C dX4_isFigure_17 rfl (by first | exact Or.inl rfl | exact Or.inr rfl) ?_
      first | exact ⟨b1t ⟨Int32.not_lt.mp c3, Int32.not_lt.mp c9⟩, rfl⟩ | exact ⟨b1f (fun q => absurd c3 (Int32.not_lt.mpr q.1)), rfl⟩ | exact ⟨b1f (fun q => absurd c9 (Int32.not_lt.mpr q.2)), rfl⟩
    · refine r_iconst (pc := 12) C (1) dX4_isFigure_12 (by decide) ?_
      refine r_goto (pc := 13) C 17 dX4_isFigure_13 (by decide) ?_
      refine q_zret (pc := 17) C dX4_isFigure_17 rfl (by first | exact Or.inl rfl | exact Or.inr rfl) ?_
      first | exact ⟨b1t ⟨Int32.not_lt.mp c3, Int32.not_lt.mp c9⟩, rfl⟩ | exact ⟨b1f (fun q => absurd c3 (Int32.not_lt.mpr q.1)), rfl⟩ | exact ⟨b1f (fun q => absurd c9 (Int32.not_lt.mpr q.2)), rfl⟩
set_option maxRecDepth 100000 in
set_option maxHeartbeats 4000000 in
theorem l_takeFigures {X : XT} {G : GG} {kn : Nat} {Q : State → Prop} {f : MM} {tp : Nat → Int32} {len q : Nat} (hlen : len ≤ 120) (C : Cx X G mX4_takeFigures 2 0 0 (NN kn)) (K : ∀ (i : Nat) (g : MM), (q + i ≤ len ∧ (∀ t, t < i → q + t < len ∧ dig (tp (q + t)) = true) ∧ g 3 = tp ∧ g 2 1 = nI len ∧ g 2 2 = nI (q + i) ∧ g 2 5 = vC tp q i ∧ g 2 4 = nI q ∧ g 2 6 = 0 ∧ agQ f g) → (len ≤ q + i ∨ dig (tp (q + i)) = false) → Vw X G mX4_takeFigures.2.2.2.1 0 0 Q (NN kn) (shF kn) g 68 [some (.ref (G.1 + 2))] []) : ∀ (m i : Nat) (g : MM), q + i + m = len → (q + i ≤ len ∧ (∀ t, t < i → q + t < len ∧ dig (tp (q + t)) = true) ∧ g 3 = tp ∧ g 2 1 = nI len ∧ g 2 2 = nI (q + i) ∧ g 2 5 = vC tp q i ∧ g 2 4 = nI q ∧ g 2 6 = 0 ∧ agQ f g) → Vw X G mX4_takeFigures.2.2.2.1 0 0 Q (NN kn) (shF kn) g 5 [some (.ref (G.1 + 2))] [] := by
  intro m
  induction m with
  | zero =>
    intro i g hm hg
    obtain ⟨h1, h2, h3, h4, h5, h6, h7, h8, h9⟩ := id hg
    refine r_aload_n (pc := 5) C dX4_takeFigures_5 rfl ?_
    refine r_get (pc := 6) C fX4_22 dX4_takeFigures_6 (s_2 _) rfl ?_
    refine r_aload_n (pc := 9) C dX4_takeFigures_9 rfl ?_
    refine r_get (pc := 10) C fX4_15 dX4_takeFigures_10 (s_2 _) rfl ?_
    refine q_ge (pc := 13) C (q + i) len 68 h5 h4 (by omega) (by omega) dX4_takeFigures_13 (by decide) (fun c13 => ?_) (fun c13 => ?_)
    · exact K i g hg (Or.inl c13)
    · exact absurd c13 (by omega)
  | succ m ih =>
    intro i g hm hg
    obtain ⟨h1, h2, h3, h4, h5, h6, h7, h8, h9⟩ := id hg
    refine r_aload_n (pc := 5) C dX4_takeFigures_5 rfl ?_
    refine r_get (pc := 6) C fX4_22 dX4_takeFigures_6 (s_2 _) rfl ?_
    refine r_aload_n (pc := 9) C dX4_takeFigures_9 rfl ?_
    refine r_get (pc := 10) C fX4_15 dX4_takeFigures_10 (s_2 _) rfl ?_
    refine q_ge (pc := 13) C (q + i) len 68 h5 h4 (by omega) (by omega) dX4_takeFigures_13 (by decide) (fun c13 => ?_) (fun c13 => ?_)
    · exact absurd c13 (by omega)
    · refine r_aload_n (pc := 16) C dX4_takeFigures_16 rfl ?_
      refine r_getr (pc := 17) C fX4_11 dX4_takeFigures_17 (s_2 _) rfl rfl ?_
      refine r_aload_n (pc := 20) C dX4_takeFigures_20 rfl ?_
      refine r_get (pc := 21) C fX4_22 dX4_takeFigures_21 (s_2 _) rfl ?_
      refine q_iald (pc := 24) C (q + i) dX4_takeFigures_24 (s_3 _) (sn_3 _) h5 (by omega) (by decide) ?_
      refine q_sIf (pc := 25) C kX4_116 dX4_takeFigures_25 (c_X4_isFigure) rfl rfl (Nat.le_of_ble_eq_true rfl) (by decide) ⟨by decide, by decide⟩ ?_
      refine r_if_eq (pc := 28) C 68 dX4_takeFigures_28 (by decide) (fun c28 => ?_) (fun c28 => ?_)
      · replace c28 := b1_0 c28
        rw [h3] at c28
        exact K i g hg (Or.inr c28)
      · replace c28 := b1_1 c28
        rw [h3] at c28
        refine r_aload_n (pc := 31) C dX4_takeFigures_31 rfl ?_
        refine r_bipush (pc := 32) C (10) dX4_takeFigures_32 (by decide) ?_
        refine r_aload_n (pc := 34) C dX4_takeFigures_34 rfl ?_
        refine r_get (pc := 35) C fX4_107 dX4_takeFigures_35 (s_2 _) rfl ?_
        refine r_imul (pc := 38) C dX4_takeFigures_38 ?_
        refine r_aload_n (pc := 39) C dX4_takeFigures_39 rfl ?_
        refine r_getr (pc := 40) C fX4_11 dX4_takeFigures_40 (s_2 _) rfl rfl ?_
        refine r_aload_n (pc := 43) C dX4_takeFigures_43 rfl ?_
        refine r_get (pc := 44) C fX4_22 dX4_takeFigures_44 (s_2 _) rfl ?_
        refine q_iald (pc := 47) C (q + i) dX4_takeFigures_47 (s_3 _) (sn_3 _) h5 (by omega) (by decide) ?_
        refine r_iadd (pc := 48) C dX4_takeFigures_48 ?_
        refine r_bipush (pc := 49) C (48) dX4_takeFigures_49 (by decide) ?_
        refine r_isub (pc := 51) C dX4_takeFigures_51 ?_
        refine r_put (pc := 52) C fX4_107 ftX4_5 dX4_takeFigures_52 (s_2 _) rfl ?_
        refine r_aload_n (pc := 55) C dX4_takeFigures_55 rfl ?_
        refine r_dup (pc := 56) C dX4_takeFigures_56 rfl ?_
        refine r_get (pc := 57) C fX4_22 dX4_takeFigures_57 (s_2 _) rfl ?_
        refine r_iconst (pc := 60) C (1) dX4_takeFigures_60 (by decide) ?_
        refine r_iadd (pc := 61) C dX4_takeFigures_61 ?_
        refine r_put (pc := 62) C fX4_22 ftX4_2 dX4_takeFigures_62 (s_2 _) rfl ?_
        refine r_goto (pc := 65) C 5 dX4_takeFigures_65 (by decide) ?_
        refine ih (i + 1) _ (by omega) ⟨by omega, ?_, ?_, ?_, ?_, ?_, ?_, ?_, ?_⟩
        · intro t ht
          by_cases e : t = i
          · subst e; exact ⟨by omega, c28⟩
          · exact h2 t (by omega)
        · rw [u2_row (by decide), u2_row (by decide)]; exact h3
        · simp [u2, h4]
        · simp [u2, h5]; exact nI_1 _
        · show _ = 10 * vC tp q i + tp (q + i) - 48
          rw [← h6, ← h3]
          simp [u2]
        · simp [u2, h7]
        · simp only [u2]; simp; exact h8
        · exact (h9.put (by decide) (by decide)).put (by decide) (by decide)
set_option maxRecDepth 100000 in
set_option maxHeartbeats 4000000 in
theorem c_X4_takeFigures {G : GG} {kn : Nat} {f : MM} {tp : Nat → Int32} {len q : Nat} (hlen : len ≤ 120) (ht : f 3 = tp) (hl : f 2 1 = nI len) (hp : f 2 2 = nI q) (h24 : f 2 4 = nI q) (h26 : f 2 6 = 0) (hq : q < len) (hd : dig (tp q) = true) : RV G mX4_takeFigures 2 kn [.ref (G.1 + 2)] f (fun g => AtC tp len g q ∧ agQ f g) := by
  refine Ct.of [some (.ref (G.1 + 2))] rfl (by decide +kernel) rfl (Nat.le_of_ble_eq_true rfl) rfl ?_
  intro X C
  refine r_aload_n (pc := 0) C dX4_takeFigures_0 rfl ?_
  refine r_iconst (pc := 1) C (0) dX4_takeFigures_1 (by decide) ?_
  refine r_put (pc := 2) C fX4_107 ftX4_5 dX4_takeFigures_2 (s_2 _) rfl ?_
  refine l_takeFigures (f := f) (tp := tp) (len := len) (q := q) hlen C (fun i g hg hx => ?_) (len - q) 0 _ (by omega) ⟨by omega, fun t ht => by omega, by rw [u2_row (by decide)]; exact ht, by simp [u2, hl], by simp [u2, hp], by simp [u2, vC], by simp [u2, h24], by simp [u2, h26], agQ.rf.put (by decide) (by decide)⟩
  obtain ⟨h1, h2, h3, h4, h5, h6, h7, h8, h9⟩ := hg
  refine r_aload_n (pc := 68) C dX4_takeFigures_68 rfl ?_
  refine r_aload_n (pc := 69) C dX4_takeFigures_69 rfl ?_
  refine r_get (pc := 70) C fX4_22 dX4_takeFigures_70 (s_2 _) rfl ?_
  refine r_aload_n (pc := 73) C dX4_takeFigures_73 rfl ?_
  refine r_get (pc := 74) C fX4_110 dX4_takeFigures_74 (s_2 _) rfl ?_
  refine r_isub (pc := 77) C dX4_takeFigures_77 ?_
  refine q_is (i) (by rw [h5, h7, pk_sub (by omega), Nat.add_sub_cancel_left]) ?_
  refine r_iconst (pc := 78) C (3) dX4_takeFigures_78 (by decide) ?_
  refine q_gt (pc := 79) C i 3 87 rfl rfl (by omega) (by omega) dX4_takeFigures_79 (by decide) (fun c79 => ?_) (fun c79 => ?_)
  · refine r_bipush (pc := 87) C (-2) dX4_takeFigures_87 (by decide) ?_
    refine r_put (pc := 89) C fX4_83 ftX4_3 dX4_takeFigures_89 (s_2 _) rfl ?_
    refine q_vret (pc := 92) C dX4_takeFigures_92 rfl ?_
    have hi0 : i ≠ 0 := fun z => by
      subst z
      rcases hx with z | z
      · omega
      · rw [Nat.add_zero, hd] at z; cases z
    have hde : dEnd tp len q = q + i := dE_run h2 hx (by omega)
    have hnx : nx tp len q = q + i := by simp [nx, hde, hd, show ¬ len ≤ q by omega]
    have hkn : knd tp len q = 0 := by simp [knd, hde, hd, show ¬ len ≤ q by omega]; omega
    refine ⟨⟨hlen, ?_, ?_, by omega, ?_, ?_, ?_, ?_, ?_, ?_⟩, ?_⟩
    · rw [u2_row (by decide)]; exact h3
    · simp [u2, h4]
    · rw [hnx]; exact h1
    · rw [hnx]; simp [u2, h5]
    · unfold tkC; rw [hkn]; simp [u2]
    · intro z
      rw [show vl tp len q = vC tp q i by simp [vl, hde, hd]]
      simp [u2, h6]
    · simp [u2, h7]
    · simp [u2, h8]
    · exact h9.put (by decide) (by decide)
  · refine r_bipush (pc := 82) C (-3) dX4_takeFigures_82 (by decide) ?_
    refine r_goto (pc := 84) C 89 dX4_takeFigures_84 (by decide) ?_
    refine r_put (pc := 89) C fX4_83 ftX4_3 dX4_takeFigures_89 (s_2 _) rfl ?_
    refine q_vret (pc := 92) C dX4_takeFigures_92 rfl ?_
    have hi0 : i ≠ 0 := fun z => by
      subst z
      rcases hx with z | z
      · omega
      · rw [Nat.add_zero, hd] at z; cases z
    have hde : dEnd tp len q = q + i := dE_run h2 hx (by omega)
    have hnx : nx tp len q = q + i := by simp [nx, hde, hd, show ¬ len ≤ q by omega]
    have hkn : knd tp len q = 2 := by simp [knd, hde, hd, show ¬ len ≤ q by omega]; omega
    refine ⟨⟨hlen, ?_, ?_, by omega, ?_, ?_, ?_, ?_, ?_, ?_⟩, ?_⟩
    · rw [u2_row (by decide)]; exact h3
    · simp [u2, h4]
    · rw [hnx]; exact h1
    · rw [hnx]; simp [u2, h5]
    · unfold tkC; rw [hkn]; simp [u2]
    · intro z
      rw [show vl tp len q = vC tp q i by simp [vl, hde, hd]]
      simp [u2, h6]
    · simp [u2, h7]
    · simp [u2, h8]
    · exact h9.put (by decide) (by decide)
set_option maxRecDepth 100000 in
set_option maxHeartbeats 4000000 in
theorem c_X4_advance {G : GG} {kn : Nat} {f : MM} {tp : Nat → Int32} {len q : Nat} (hlen : len ≤ 120) (ht : f 3 = tp) (hl : f 2 1 = nI len) (hp : f 2 2 = nI q) (h26 : f 2 6 = 0) (hq : q ≤ len) : RV G mX4_advance 3 kn [.ref (G.1 + 2)] f (fun g => AtC tp len g q ∧ agQ f g) := by
  refine Ct.of [some (.ref (G.1 + 2)), none, none] rfl (by decide +kernel) rfl (Nat.le_of_ble_eq_true rfl) rfl ?_
  intro X C
  refine r_aload_n (pc := 0) C dX4_advance_0 rfl ?_
  refine r_get (pc := 1) C fX4_19 dX4_advance_1 (s_2 _) rfl ?_
  refine q_val 0 h26 ?_
  refine r_if_eq (pc := 4) C 8 dX4_advance_4 (by decide) (fun c4 => ?_) (fun c4 => ?_)
  · refine r_aload_n (pc := 8) C dX4_advance_8 rfl ?_
    refine r_aload_n (pc := 9) C dX4_advance_9 rfl ?_
    refine r_get (pc := 10) C fX4_22 dX4_advance_10 (s_2 _) rfl ?_
    refine r_put (pc := 13) C fX4_110 ftX4_4 dX4_advance_13 (s_2 _) rfl ?_
    refine r_aload_n (pc := 16) C dX4_advance_16 rfl ?_
    refine r_get (pc := 17) C fX4_22 dX4_advance_17 (s_2 _) rfl ?_
    refine r_aload_n (pc := 20) C dX4_advance_20 rfl ?_
    refine r_get (pc := 21) C fX4_15 dX4_advance_21 (s_2 _) rfl ?_
    refine q_lt (pc := 24) C q len 33 (by simp [u2, hp]) (by simp [u2, hl]) (by omega) (by omega) dX4_advance_24 (by decide) (fun c24 => ?_) (fun c24 => ?_)
    · refine r_aload_n (pc := 33) C dX4_advance_33 rfl ?_
      refine r_getr (pc := 34) C fX4_11 dX4_advance_34 (s_2 _) rfl rfl ?_
      refine r_aload_n (pc := 37) C dX4_advance_37 rfl ?_
      refine r_get (pc := 38) C fX4_22 dX4_advance_38 (s_2 _) rfl ?_
      refine q_iald (pc := 41) C q dX4_advance_41 (s_3 _) (sn_3 _) (by simp [u2, hp]) (by omega) (by decide) ?_
      refine q_val (tp q) (by rw [u2_row (by decide), ht]) ?_
      refine r_istore_n (pc := 42) C dX4_advance_42 (by decide) rfl ?_
      refine r_iload_n (pc := 43) C dX4_advance_43 rfl ?_
      refine q_sIf (pc := 44) C kX4_116 dX4_advance_44 (c_X4_isFigure) rfl rfl (Nat.le_of_ble_eq_true rfl) (by decide) ⟨by decide, by decide⟩ ?_
      refine r_if_eq (pc := 47) C 55 dX4_advance_47 (by decide) (fun c47 => ?_) (fun c47 => ?_)
      · replace c47 := b1_0 c47
        refine r_aload_n (pc := 55) C dX4_advance_55 rfl ?_
        refine r_dup (pc := 56) C dX4_advance_56 rfl ?_
        refine r_get (pc := 57) C fX4_22 dX4_advance_57 (s_2 _) rfl ?_
        refine r_iconst (pc := 60) C (1) dX4_advance_60 (by decide) ?_
        refine r_iadd (pc := 61) C dX4_advance_61 ?_
        refine r_put (pc := 62) C fX4_22 ftX4_2 dX4_advance_62 (s_2 _) rfl ?_
        refine r_iload_n (pc := 65) C dX4_advance_65 rfl ?_
        refine r_bipush (pc := 66) C (97) dX4_advance_66 (by decide) ?_
        refine r_icmp_lt (pc := 68) C 77 dX4_advance_68 (by decide) (fun c68 => ?_) (fun c68 => ?_)
        · refine r_iload_n (pc := 77) C dX4_advance_77 rfl ?_
          refine r_bipush (pc := 78) C (44) dX4_advance_78 (by decide) ?_
          refine r_icmp_eq (pc := 80) C 89 dX4_advance_80 (by decide) (fun c80 => ?_) (fun c80 => ?_)
          · refine r_iconst (pc := 89) C (1) dX4_advance_89 (by decide) ?_
            refine r_goto (pc := 90) C 94 dX4_advance_90 (by decide) ?_
            refine r_istore_n (pc := 94) C dX4_advance_94 (by decide) rfl ?_
            refine r_aload_n (pc := 95) C dX4_advance_95 rfl ?_
            refine r_iload_n (pc := 96) C dX4_advance_96 rfl ?_
            refine r_if_eq (pc := 97) C 104 dX4_advance_97 (by decide) (fun c97 => ?_) (fun c97 => ?_)
            · exact absurd c97 (by decide)
            · refine r_iload_n (pc := 100) C dX4_advance_100 rfl ?_
              refine r_goto (pc := 101) C 106 dX4_advance_101 (by decide) ?_
              refine r_put (pc := 106) C fX4_83 ftX4_3 dX4_advance_106 (s_2 _) rfl ?_
              refine q_vret (pc := 109) C dX4_advance_109 rfl ?_
              have hnd : dig (tp q) = false := c47
              have hlt : ¬ len ≤ q := by omega
              have hsg : sgn (tp q) = true := by
                unfold sgn
                first | (rw [decide_eq_true (show (97 : Int32) ≤ tp q ∧ tp q ≤ 122 from ⟨Int32.not_lt.mp c68, c74⟩)]; rfl) | (rw [c80]; decide) | (rw [c86]; decide)
              refine ⟨⟨hlen, ?_, ?_, by omega, ?_, ?_, ?_, ?_, ?_, ?_⟩, ?_⟩
              · rw [u2_row (by decide), u2_row (by decide), u2_row (by decide)]; exact ht
              · simp [u2, hl]
              · rw [show nx tp len q = q + 1 by simp [nx, hlt, hnd]]; omega
              · rw [show nx tp len q = q + 1 by simp [nx, hlt, hnd]]; simp [u2, hp]; exact nI_1 _
              · unfold tkC; rw [show knd tp len q = 1 by simp [knd, hlt, hnd, hsg], show vl tp len q = tp q by simp [vl, hnd]]; simp [u2]
              · intro z
                rw [show knd tp len q = 1 by simp [knd, hlt, hnd, hsg]] at z
                omega
              · simp [u2, hp]
              · simp [u2, h26]
              · exact ((agQ.rf.put (by decide) (by decide)).put (by decide) (by decide)).put (by decide) (by decide)
          · refine r_iload_n (pc := 83) C dX4_advance_83 rfl ?_
            refine r_bipush (pc := 84) C (59) dX4_advance_84 (by decide) ?_
            refine r_icmp_ne (pc := 86) C 93 dX4_advance_86 (by decide) (fun c86 => ?_) (fun c86 => ?_)
            · refine r_iconst (pc := 93) C (0) dX4_advance_93 (by decide) ?_
              refine r_istore_n (pc := 94) C dX4_advance_94 (by decide) rfl ?_
              refine r_aload_n (pc := 95) C dX4_advance_95 rfl ?_
              refine r_iload_n (pc := 96) C dX4_advance_96 rfl ?_
              refine r_if_eq (pc := 97) C 104 dX4_advance_97 (by decide) (fun c97 => ?_) (fun c97 => ?_)
              · refine r_bipush (pc := 104) C (-2) dX4_advance_104 (by decide) ?_
                refine r_put (pc := 106) C fX4_83 ftX4_3 dX4_advance_106 (s_2 _) rfl ?_
                refine q_vret (pc := 109) C dX4_advance_109 rfl ?_
                have hnd : dig (tp q) = false := c47
                have hlt : ¬ len ≤ q := by omega
                have hsg : sgn (tp q) = false := by
                  unfold sgn
                  first | (rw [decide_eq_false (fun z : (97 : Int32) ≤ tp q ∧ tp q ≤ 122 => absurd c68 (Int32.not_lt.mpr z.1)), decide_eq_false c80, decide_eq_false c86]; rfl) | (rw [decide_eq_false (fun z : (97 : Int32) ≤ tp q ∧ tp q ≤ 122 => absurd z.2 c74), decide_eq_false c80, decide_eq_false c86]; rfl)
                refine ⟨⟨hlen, ?_, ?_, by omega, ?_, ?_, ?_, ?_, ?_, ?_⟩, ?_⟩
                · rw [u2_row (by decide), u2_row (by decide), u2_row (by decide)]; exact ht
                · simp [u2, hl]
                · rw [show nx tp len q = q + 1 by simp [nx, hlt, hnd]]; omega
                · rw [show nx tp len q = q + 1 by simp [nx, hlt, hnd]]; simp [u2, hp]; exact nI_1 _
                · unfold tkC; rw [show knd tp len q = 0 by simp [knd, hlt, hnd, hsg], show vl tp len q = tp q by simp [vl, hnd]]; simp [u2]
                · intro z
                  rw [show knd tp len q = 0 by simp [knd, hlt, hnd, hsg]] at z
                  omega
                · simp [u2, hp]
                · simp [u2, h26]
                · exact ((agQ.rf.put (by decide) (by decide)).put (by decide) (by decide)).put (by decide) (by decide)
              · exact absurd rfl c97
            · refine r_iconst (pc := 89) C (1) dX4_advance_89 (by decide) ?_
              refine r_goto (pc := 90) C 94 dX4_advance_90 (by decide) ?_
              refine r_istore_n (pc := 94) C dX4_advance_94 (by decide) rfl ?_
              refine r_aload_n (pc := 95) C dX4_advance_95 rfl ?_
              refine r_iload_n (pc := 96) C dX4_advance_96 rfl ?_
              refine r_if_eq (pc := 97) C 104 dX4_advance_97 (by decide) (fun c97 => ?_) (fun c97 => ?_)
              · exact absurd c97 (by decide)
              · refine r_iload_n (pc := 100) C dX4_advance_100 rfl ?_
                refine r_goto (pc := 101) C 106 dX4_advance_101 (by decide) ?_
                refine r_put (pc := 106) C fX4_83 ftX4_3 dX4_advance_106 (s_2 _) rfl ?_
                refine q_vret (pc := 109) C dX4_advance_109 rfl ?_
                have hnd : dig (tp q) = false := c47
                have hlt : ¬ len ≤ q := by omega
                have hsg : sgn (tp q) = true := by
                  unfold sgn
                  first | (rw [decide_eq_true (show (97 : Int32) ≤ tp q ∧ tp q ≤ 122 from ⟨Int32.not_lt.mp c68, c74⟩)]; rfl) | (rw [c80]; decide) | (rw [c86]; decide)
                refine ⟨⟨hlen, ?_, ?_, by omega, ?_, ?_, ?_, ?_, ?_, ?_⟩, ?_⟩
                · rw [u2_row (by decide), u2_row (by decide), u2_row (by decide)]; exact ht
                · simp [u2, hl]
                · rw [show nx tp len q = q + 1 by simp [nx, hlt, hnd]]; omega
                · rw [show nx tp len q = q + 1 by simp [nx, hlt, hnd]]; simp [u2, hp]; exact nI_1 _
                · unfold tkC; rw [show knd tp len q = 1 by simp [knd, hlt, hnd, hsg], show vl tp len q = tp q by simp [vl, hnd]]; simp [u2]
                · intro z
                  rw [show knd tp len q = 1 by simp [knd, hlt, hnd, hsg]] at z
                  omega
                · simp [u2, hp]
                · simp [u2, h26]
                · exact ((agQ.rf.put (by decide) (by decide)).put (by decide) (by decide)).put (by decide) (by decide)
        · refine r_iload_n (pc := 71) C dX4_advance_71 rfl ?_
          refine r_bipush (pc := 72) C (122) dX4_advance_72 (by decide) ?_
          refine r_icmp_le (pc := 74) C 89 dX4_advance_74 (by decide) (fun c74 => ?_) (fun c74 => ?_)
          · refine r_iconst (pc := 89) C (1) dX4_advance_89 (by decide) ?_
            refine r_goto (pc := 90) C 94 dX4_advance_90 (by decide) ?_
            refine r_istore_n (pc := 94) C dX4_advance_94 (by decide) rfl ?_
            refine r_aload_n (pc := 95) C dX4_advance_95 rfl ?_
            refine r_iload_n (pc := 96) C dX4_advance_96 rfl ?_
            refine r_if_eq (pc := 97) C 104 dX4_advance_97 (by decide) (fun c97 => ?_) (fun c97 => ?_)
            · exact absurd c97 (by decide)
            · refine r_iload_n (pc := 100) C dX4_advance_100 rfl ?_
              refine r_goto (pc := 101) C 106 dX4_advance_101 (by decide) ?_
              refine r_put (pc := 106) C fX4_83 ftX4_3 dX4_advance_106 (s_2 _) rfl ?_
              refine q_vret (pc := 109) C dX4_advance_109 rfl ?_
              have hnd : dig (tp q) = false := c47
              have hlt : ¬ len ≤ q := by omega
              have hsg : sgn (tp q) = true := by
                unfold sgn
                first | (rw [decide_eq_true (show (97 : Int32) ≤ tp q ∧ tp q ≤ 122 from ⟨Int32.not_lt.mp c68, c74⟩)]; rfl) | (rw [c80]; decide) | (rw [c86]; decide)
              refine ⟨⟨hlen, ?_, ?_, by omega, ?_, ?_, ?_, ?_, ?_, ?_⟩, ?_⟩
              · rw [u2_row (by decide), u2_row (by decide), u2_row (by decide)]; exact ht
              · simp [u2, hl]
              · rw [show nx tp len q = q + 1 by simp [nx, hlt, hnd]]; omega
              · rw [show nx tp len q = q + 1 by simp [nx, hlt, hnd]]; simp [u2, hp]; exact nI_1 _
              · unfold tkC; rw [show knd tp len q = 1 by simp [knd, hlt, hnd, hsg], show vl tp len q = tp q by simp [vl, hnd]]; simp [u2]
              · intro z
                rw [show knd tp len q = 1 by simp [knd, hlt, hnd, hsg]] at z
                omega
              · simp [u2, hp]
              · simp [u2, h26]
              · exact ((agQ.rf.put (by decide) (by decide)).put (by decide) (by decide)).put (by decide) (by decide)
          · refine r_iload_n (pc := 77) C dX4_advance_77 rfl ?_
            refine r_bipush (pc := 78) C (44) dX4_advance_78 (by decide) ?_
            refine r_icmp_eq (pc := 80) C 89 dX4_advance_80 (by decide) (fun c80 => ?_) (fun c80 => ?_)
            · refine r_iconst (pc := 89) C (1) dX4_advance_89 (by decide) ?_
              refine r_goto (pc := 90) C 94 dX4_advance_90 (by decide) ?_
              refine r_istore_n (pc := 94) C dX4_advance_94 (by decide) rfl ?_
              refine r_aload_n (pc := 95) C dX4_advance_95 rfl ?_
              refine r_iload_n (pc := 96) C dX4_advance_96 rfl ?_
              refine r_if_eq (pc := 97) C 104 dX4_advance_97 (by decide) (fun c97 => ?_) (fun c97 => ?_)
              · exact absurd c97 (by decide)
              · refine r_iload_n (pc := 100) C dX4_advance_100 rfl ?_
                refine r_goto (pc := 101) C 106 dX4_advance_101 (by decide) ?_
                refine r_put (pc := 106) C fX4_83 ftX4_3 dX4_advance_106 (s_2 _) rfl ?_
                refine q_vret (pc := 109) C dX4_advance_109 rfl ?_
                have hnd : dig (tp q) = false := c47
                have hlt : ¬ len ≤ q := by omega
                have hsg : sgn (tp q) = true := by
                  unfold sgn
                  first | (rw [decide_eq_true (show (97 : Int32) ≤ tp q ∧ tp q ≤ 122 from ⟨Int32.not_lt.mp c68, c74⟩)]; rfl) | (rw [c80]; decide) | (rw [c86]; decide)
                refine ⟨⟨hlen, ?_, ?_, by omega, ?_, ?_, ?_, ?_, ?_, ?_⟩, ?_⟩
                · rw [u2_row (by decide), u2_row (by decide), u2_row (by decide)]; exact ht
                · simp [u2, hl]
                · rw [show nx tp len q = q + 1 by simp [nx, hlt, hnd]]; omega
                · rw [show nx tp len q = q + 1 by simp [nx, hlt, hnd]]; simp [u2, hp]; exact nI_1 _
                · unfold tkC; rw [show knd tp len q = 1 by simp [knd, hlt, hnd, hsg], show vl tp len q = tp q by simp [vl, hnd]]; simp [u2]
                · intro z
                  rw [show knd tp len q = 1 by simp [knd, hlt, hnd, hsg]] at z
                  omega
                · simp [u2, hp]
                · simp [u2, h26]
                · exact ((agQ.rf.put (by decide) (by decide)).put (by decide) (by decide)).put (by decide) (by decide)
            · refine r_iload_n (pc := 83) C dX4_advance_83 rfl ?_
              refine r_bipush (pc := 84) C (59) dX4_advance_84 (by decide) ?_
              refine r_icmp_ne (pc := 86) C 93 dX4_advance_86 (by decide) (fun c86 => ?_) (fun c86 => ?_)
              · refine r_iconst (pc := 93) C (0) dX4_advance_93 (by decide) ?_
                refine r_istore_n (pc := 94) C dX4_advance_94 (by decide) rfl ?_
                refine r_aload_n (pc := 95) C dX4_advance_95 rfl ?_
                refine r_iload_n (pc := 96) C dX4_advance_96 rfl ?_
                refine r_if_eq (pc := 97) C 104 dX4_advance_97 (by decide) (fun c97 => ?_) (fun c97 => ?_)
                · refine r_bipush (pc := 104) C (-2) dX4_advance_104 (by decide) ?_
                  refine r_put (pc := 106) C fX4_83 ftX4_3 dX4_advance_106 (s_2 _) rfl ?_
                  refine q_vret (pc := 109) C dX4_advance_109 rfl ?_
                  have hnd : dig (tp q) = false := c47
                  have hlt : ¬ len ≤ q := by omega
                  have hsg : sgn (tp q) = false := by
                    unfold sgn
                    first | (rw [decide_eq_false (fun z : (97 : Int32) ≤ tp q ∧ tp q ≤ 122 => absurd c68 (Int32.not_lt.mpr z.1)), decide_eq_false c80, decide_eq_false c86]; rfl) | (rw [decide_eq_false (fun z : (97 : Int32) ≤ tp q ∧ tp q ≤ 122 => absurd z.2 c74), decide_eq_false c80, decide_eq_false c86]; rfl)
                  refine ⟨⟨hlen, ?_, ?_, by omega, ?_, ?_, ?_, ?_, ?_, ?_⟩, ?_⟩
                  · rw [u2_row (by decide), u2_row (by decide), u2_row (by decide)]; exact ht
                  · simp [u2, hl]
                  · rw [show nx tp len q = q + 1 by simp [nx, hlt, hnd]]; omega
                  · rw [show nx tp len q = q + 1 by simp [nx, hlt, hnd]]; simp [u2, hp]; exact nI_1 _
                  · unfold tkC; rw [show knd tp len q = 0 by simp [knd, hlt, hnd, hsg], show vl tp len q = tp q by simp [vl, hnd]]; simp [u2]
                  · intro z
                    rw [show knd tp len q = 0 by simp [knd, hlt, hnd, hsg]] at z
                    omega
                  · simp [u2, hp]
                  · simp [u2, h26]
                  · exact ((agQ.rf.put (by decide) (by decide)).put (by decide) (by decide)).put (by decide) (by decide)
                · exact absurd rfl c97
              · refine r_iconst (pc := 89) C (1) dX4_advance_89 (by decide) ?_
                refine r_goto (pc := 90) C 94 dX4_advance_90 (by decide) ?_
                refine r_istore_n (pc := 94) C dX4_advance_94 (by decide) rfl ?_
                refine r_aload_n (pc := 95) C dX4_advance_95 rfl ?_
                refine r_iload_n (pc := 96) C dX4_advance_96 rfl ?_
                refine r_if_eq (pc := 97) C 104 dX4_advance_97 (by decide) (fun c97 => ?_) (fun c97 => ?_)
                · exact absurd c97 (by decide)
                · refine r_iload_n (pc := 100) C dX4_advance_100 rfl ?_
                  refine r_goto (pc := 101) C 106 dX4_advance_101 (by decide) ?_
                  refine r_put (pc := 106) C fX4_83 ftX4_3 dX4_advance_106 (s_2 _) rfl ?_
                  refine q_vret (pc := 109) C dX4_advance_109 rfl ?_
                  have hnd : dig (tp q) = false := c47
                  have hlt : ¬ len ≤ q := by omega
                  have hsg : sgn (tp q) = true := by
                    unfold sgn
                    first | (rw [decide_eq_true (show (97 : Int32) ≤ tp q ∧ tp q ≤ 122 from ⟨Int32.not_lt.mp c68, c74⟩)]; rfl) | (rw [c80]; decide) | (rw [c86]; decide)
                  refine ⟨⟨hlen, ?_, ?_, by omega, ?_, ?_, ?_, ?_, ?_, ?_⟩, ?_⟩
                  · rw [u2_row (by decide), u2_row (by decide), u2_row (by decide)]; exact ht
                  · simp [u2, hl]
                  · rw [show nx tp len q = q + 1 by simp [nx, hlt, hnd]]; omega
                  · rw [show nx tp len q = q + 1 by simp [nx, hlt, hnd]]; simp [u2, hp]; exact nI_1 _
                  · unfold tkC; rw [show knd tp len q = 1 by simp [knd, hlt, hnd, hsg], show vl tp len q = tp q by simp [vl, hnd]]; simp [u2]
                  · intro z
                    rw [show knd tp len q = 1 by simp [knd, hlt, hnd, hsg]] at z
                    omega
                  · simp [u2, hp]
                  · simp [u2, h26]
                  · exact ((agQ.rf.put (by decide) (by decide)).put (by decide) (by decide)).put (by decide) (by decide)
      · replace c47 := b1_1 c47
        refine r_aload_n (pc := 50) C dX4_advance_50 rfl ?_
        refine q_vV (pc := 51) C kX4_119 dX4_advance_51 (c_X4_takeFigures (tp := tp) (len := len) (q := q) hlen (by rw [u2_row (by decide)]; exact ht) (by simp [u2, hl]) (by simp [u2, hp]) (by simp [u2, hp]) (by simp [u2, h26]) (by omega) c47) (s_2 _) rfl rfl (Nat.le_of_ble_eq_true rfl) (by decide) ⟨by decide, by decide⟩ ?_
        intro f51 h51
        refine q_vret (pc := 54) C dX4_advance_54 rfl ?_
        exact ⟨h51.1, ((agQ.rf.put (by decide) (by decide))).tr h51.2⟩
    · refine r_aload_n (pc := 27) C dX4_advance_27 rfl ?_
      refine r_iconst (pc := 28) C (-1) dX4_advance_28 (by decide) ?_
      refine r_put (pc := 29) C fX4_83 ftX4_3 dX4_advance_29 (s_2 _) rfl ?_
      refine q_vret (pc := 32) C dX4_advance_32 rfl ?_
      have hql : q = len := by omega
      refine ⟨⟨hlen, ?_, ?_, by omega, ?_, ?_, ?_, ?_, ?_, ?_⟩, ?_⟩
      · rw [u2_row (by decide), u2_row (by decide)]; exact ht
      · simp [u2, hl]
      · rw [show nx tp len q = q by simp [nx, hql]]; omega
      · rw [show nx tp len q = q by simp [nx, hql]]; simp [u2, hp]
      · unfold tkC; rw [show knd tp len q = 3 by simp [knd, hql]]; simp [u2]
      · intro z
        rw [show knd tp len q = 3 by simp [knd, hql]] at z
        omega
      · simp [u2, hp]
      · simp [u2, h26]
      · exact (agQ.rf.put (by decide) (by decide)).put (by decide) (by decide)
  · exact absurd rfl c4
set_option maxRecDepth 100000 in
set_option maxHeartbeats 4000000 in
theorem c_X4_advanceF {G : GG} {kn : Nat} {f : MM} (h26 : ¬ f 2 6 = 0) : CV G mX4_advance 3 kn [.ref (G.1 + 2)] f f := by
  refine Ct.of [some (.ref (G.1 + 2)), none, none] rfl (by decide +kernel) rfl (Nat.le_of_ble_eq_true rfl) rfl ?_
  intro X C
  refine r_aload_n (pc := 0) C dX4_advance_0 rfl ?_
  refine r_get (pc := 1) C fX4_19 dX4_advance_1 (s_2 _) rfl ?_
  refine r_if_eq (pc := 4) C 8 dX4_advance_4 (by decide) (fun c4 => ?_) (fun c4 => ?_)
  · exact absurd c4 h26
  · refine q_vret (pc := 7) C dX4_advance_7 rfl ?_
    rfl
