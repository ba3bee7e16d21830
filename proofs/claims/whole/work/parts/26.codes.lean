/-! THE RULES ONE AFTER ANOTHER -/
def eq11 (a b : Nat → Int32) : Prop := ∀ k, k ≠ 11 → a k = b k
theorem sS.rf {s : Int32} {n : Nat} : sS s s n := fun _ _ => rfl
theorem extS_eq {a b : Nat → Int32} {s : Int32} : ∀ {n : Nat}, sC a b s n → extS a s n = extS b s n := by
  intro n
  induction n with
  | zero => intro _; rfl
  | succ n ih =>
    intro h
    have i := ih (fun w hw => h w (by omega))
    unfold extS
    rw [← i]
    by_cases hh : hasB s n = true
    · rw [if_pos hh, if_pos hh, h n (by omega) hh]
    · rw [if_neg hh, if_neg hh]
theorem walkP_11 {n leg : Nat} {a b : Nat → Int32} {s : Int32} (h : eq11 a b) (hl : leg < 8) : eq11 (walkP n n a s leg) (walkP n n b s leg) := by
  intro k hk
  have hF : firstS a s n = firstS b s n := firstS_eq sS.rf (fun w hw _ => h _ (by omega))
  unfold walkP
  rw [hF]
  have e1 : moreS a (firstS b s n) (k - 32) leg = moreS b (firstS b s n) (k - 32) leg := by
    unfold moreS
    rw [h _ (by omega), h _ (by omega), h _ (by omega)]
  have e2 : takesS a (k - 38) leg = takesS b (k - 38) leg := by
    unfold takesS
    rw [h _ (by omega), h _ (by omega), h _ (by omega), h _ (by omega), h _ (by omega)]
  rw [e1, e2, h k hk]
theorem byW_m {r m m' lo hi c : Int32} (hr : r = 0 ∨ r = 3) : byW r m lo hi c = byW r m' lo hi c := by
  unfold byW
  rcases hr with rfl | rfl
  · rfl
  · rfl
theorem leaveP_11 {n : Nat} {a b : Nat → Int32} {s : Int32} (h : eq11 a b) (hr : a 10 = 0 ∨ a 10 = 3) : eq11 (leaveP n n a s) (leaveP n n b s) := by
  intro k hk
  have hE : extS a s n = extS b s n := extS_eq (fun w hw _ => h _ (by omega))
  have hB : ∀ w, byS a (extS b s n) w = byS b (extS b s n) w := by
    intro w
    unfold byS
    rw [byW_m (m' := b 11) hr, h 10 (by decide), h (38 + w) (by omega)]
  unfold leaveP
  rw [hE, hB, hB, hB, h k hk, h (38 + (k - 32)) (by omega), h (38 + (k - 44)) (by omega)]
theorem goS_11 {n L g : Nat} {a b : Nat → Int32} {s : Int32} (h : eq11 a b) (hg : g < 8) (hr : a 10 = 0 ∨ a 10 = 3) : eq11 (goS n L g s a) (goS n L g s b) := by
  have hu : eq11 (upd (walkP n n a s g) 9 (nI (g + 1))) (upd (walkP n n b s g) 9 (nI (g + 1))) := by
    intro k hk
    unfold upd
    rw [walkP_11 h hg k hk]
  unfold goS
  dsimp only
  by_cases q : g + 1 < L
  · rw [if_pos q, if_pos q]
    exact leaveP_11 hu (by rw [upd_ne (by decide), walkP_lo (by decide)]; exact hr)
  · rw [if_neg q, if_neg q]
    exact hu
theorem hutI_11 {n L : Nat} {s : Int32} : ∀ (m g : Nat) (a b : Nat → Int32), g + m ≤ 8 → eq11 a b → (a 10 = 0 ∨ a 10 = 3) → eq11 (hutI n L s m g a) (hutI n L s m g b) := by
  intro m
  induction m with
  | zero => intro g a b _ h _; exact h
  | succ m ih =>
    intro g a b hm h hr
    exact ih (g + 1) _ _ (by omega) (goS_11 h (by omega) hr) (by rw [goS_lo (by decide) (by decide)]; exact hr)
theorem hutV_m {n L g k : Nat} {st : Nat → Int32} {r m m' : Int32} (hL : L ≤ 8) (hg : g ≤ L) (hr : r = 0 ∨ r = 3) (hk : k ≠ 11) : hutV n L g st r m k = hutV n L g st r m' k := by
  unfold hutV
  refine hutI_11 (L - g) g _ _ (by omega) ?_ ?_ k hk
  · intro j hj
    rw [upd_ne hj, upd_ne hj]
  · rw [upd_ne (by decide), upd_at]; exact hr
theorem tryV_m {n L g : Nat} {st : Nat → Int32} {r m m' : Int32} (hL : L ≤ 8) (hg : g ≤ L) (hr : r = 0 ∨ r = 3) : tryV n L g st r m = tryV n L g st r m' := by
  unfold tryV
  exact lastI_eq sS.rf (fun w hw _ => hutV_m hL hg hr (by omega))
theorem ap_no {k : Nat} (hk : k < 124) (h : apB k = false) : (nI (k / 31) = 0 ∨ nI (k / 31) = 3) ∧ 31 * (k / 31) < k := by
  unfold apB at h
  simp only [Bool.or_eq_false_iff, beq_eq_false_iff_ne] at h
  obtain ⟨⟨a, b⟩, c⟩ := h
  have e : k / 31 = 0 ∨ k / 31 = 3 := by omega
  refine ⟨?_, by omega⟩
  rcases e with e | e
  · left; rw [e]; rfl
  · right; rw [e]; rfl
/-- the class's search -/
def clI (v : Nat → Int32) : Nat → Nat × Int32
  | 0 => (0, 1000000000)
  | k + 1 => if apB k = true ∧ v k < (clI v k).2 then (k, v k) else clI v k
theorem clI_bd {v : Nat → Int32} : ∀ k, (clI v k).1 ≤ k := by
  intro k
  induction k with
  | zero => exact Nat.le_refl _
  | succ k ih =>
    unfold clI
    split
    · exact Nat.le_succ _
    · omega
/-- what the codes' values are like -/
def vOK (v : Nat → Int32) (lo : Int) (N : Nat) : Prop := (∀ k, k < N → lo ≤ (v k).toInt ∧ (v k).toInt ≤ 100000) ∧ ∀ k, k < N → apB k = false → ∃ j, j < k ∧ v j = v k
theorem so_cl {v : Nat → Int32} {N : Nat} (h : vOK v 0 N) : ∀ k, k < N → soI v (k + 1) = clI v (k + 1) ∧ 0 ≤ ((soI v (k + 1)).2).toInt ∧ ∀ j, j < k + 1 → ((soI v (k + 1)).2).toInt ≤ (v j).toInt := by
  intro k
  have z : (0 : Int32).toInt = 0 := by decide
  have b9 : (1000000000 : Int32).toInt = 1000000000 := by decide
  induction k with
  | zero =>
    intro hk
    have b := h.1 0 hk
    have e1 : soI v 1 = (0, v 0) := if_pos (c := (soI v 0).2 < 0) (by show (-1 : Int32) < 0; decide)
    have e2 : clI v 1 = (0, v 0) := if_pos (c := apB 0 = true ∧ v 0 < (clI v 0).2) ⟨by decide, by show v 0 < (1000000000 : Int32); rw [ti_lt]; omega⟩
    rw [e1, e2]
    refine ⟨rfl, b.1, fun j hj => ?_⟩
    rw [show j = 0 by omega]
    exact Int.le_refl _
  | succ k ih =>
    intro hk
    obtain ⟨i1, i2, i3⟩ := ih (by omega)
    have b := h.1 (k + 1) hk
    have es : soI v (k + 1 + 1) = if (soI v (k + 1)).2 < 0 then (k + 1, v (k + 1)) else if (soI v (k + 1)).2 ≤ v (k + 1) then soI v (k + 1) else (k + 1, v (k + 1)) := rfl
    have ec : clI v (k + 1 + 1) = if apB (k + 1) = true ∧ v (k + 1) < (clI v (k + 1)).2 then (k + 1, v (k + 1)) else clI v (k + 1) := rfl
    rw [if_neg (by rw [ti_lt]; omega)] at es
    rw [← i1] at ec
    by_cases q : (soI v (k + 1)).2 ≤ v (k + 1)
    · rw [if_pos q] at es
      rw [if_neg (fun p => absurd p.2 (Int32.not_lt.mpr q))] at ec
      rw [es, ec]
      refine ⟨rfl, i2, fun j hj => ?_⟩
      by_cases e : j = k + 1
      · rw [e]; exact ti_le.mp q
      · exact i3 j (by omega)
    · rw [if_neg q] at es
      have ql : v (k + 1) < (soI v (k + 1)).2 := Int32.not_le.mp q
      have ap : apB (k + 1) = true := by
        cases e : apB (k + 1) with
        | true => rfl
        | false =>
          obtain ⟨j, hj, ej⟩ := h.2 (k + 1) hk e
          have := i3 j hj
          rw [ej] at this
          exact absurd (ti_le.mpr this) q
      rw [if_pos ⟨ap, ql⟩] at ec
      rw [es, ec]
      refine ⟨rfl, b.1, fun j hj => ?_⟩
      have l := ti_lt.mp ql
      by_cases e : j = k + 1
      · rw [e]; exact Int.le_refl _
      · have := i3 j (by omega)
        show (v (k + 1)).toInt ≤ _
        omega
theorem fa_cl {v : Nat → Int32} {N : Nat} (h : vOK v (-100000) N) : ∀ k, k < N → (faI v (k + 1)).1 = some (clI v (k + 1)).1 ∧ (faI v (k + 1)).2 = (clI v (k + 1)).2 ∧ ∀ j, j < k + 1 → ((faI v (k + 1)).2).toInt ≤ (v j).toInt := by
  intro k
  have b9 : (1000000000 : Int32).toInt = 1000000000 := by decide
  induction k with
  | zero =>
    intro hk
    have b := h.1 0 hk
    have e1 : faI v 1 = (some 0, v 0) := rfl
    have e2 : clI v 1 = (0, v 0) := if_pos (c := apB 0 = true ∧ v 0 < (clI v 0).2) ⟨by decide, by show v 0 < (1000000000 : Int32); rw [ti_lt]; omega⟩
    rw [e1, e2]
    refine ⟨rfl, rfl, fun j hj => ?_⟩
    rw [show j = 0 by omega]
    exact Int.le_refl _
  | succ k ih =>
    intro hk
    obtain ⟨i1, i2, i3⟩ := ih (by omega)
    have es : faI v (k + 1 + 1) = if (faI v (k + 1)).2 ≤ v (k + 1) then (some (clI v (k + 1)).1, (faI v (k + 1)).2) else (some (k + 1), v (k + 1)) := by
      show (match (faI v (k + 1)).1 with
        | none => (some (k + 1), v (k + 1))
        | some b => if (faI v (k + 1)).2 ≤ v (k + 1) then (some b, (faI v (k + 1)).2) else (some (k + 1), v (k + 1))) = _
      rw [i1]
    have ec : clI v (k + 1 + 1) = if apB (k + 1) = true ∧ v (k + 1) < (clI v (k + 1)).2 then (k + 1, v (k + 1)) else clI v (k + 1) := rfl
    rw [← i2] at ec
    by_cases q : (faI v (k + 1)).2 ≤ v (k + 1)
    · rw [if_pos q] at es
      rw [if_neg (fun p => absurd p.2 (Int32.not_lt.mpr q))] at ec
      rw [es, ec]
      refine ⟨rfl, i2, fun j hj => ?_⟩
      by_cases e : j = k + 1
      · rw [e]; exact ti_le.mp q
      · exact i3 j (by omega)
    · rw [if_neg q] at es
      have ql : v (k + 1) < (faI v (k + 1)).2 := Int32.not_le.mp q
      have ap : apB (k + 1) = true := by
        cases e : apB (k + 1) with
        | true => rfl
        | false =>
          obtain ⟨j, hj, ej⟩ := h.2 (k + 1) hk e
          have := i3 j hj
          rw [ej] at this
          exact absurd (ti_le.mpr this) q
      rw [if_pos ⟨ap, ql⟩] at ec
      rw [es, ec]
      refine ⟨rfl, rfl, fun j hj => ?_⟩
      have l := ti_lt.mp ql
      by_cases e : j = k + 1
      · rw [e]; exact Int.le_refl _
      · have := i3 j (by omega)
        show (v (k + 1)).toInt ≤ _
        omega
theorem Pt.ok {f : MM} {p n l : Nat} {s : Int32} {st : Nat → Int32} (a : Pt f p n s l st) (hl : l ≤ 16) : ∀ w, w < n → 0 ≤ (st (38 + w)).toInt ∧ (st (38 + w)).toInt ≤ 40000 := by
  intro w hw
  have e := a.2.2.1 w hw 4 (by decide)
  have g := (a.2.2.2 w hw).2.2.2.2
  rw [e] at g
  have g2 : 0 ≤ (st (38 + w)).toInt ∧ (st (38 + w)).toInt ≤ 2500 * l := g
  omega
theorem Pt.lastok {f : MM} {p n l : Nat} {s t : Int32} {st : Nat → Int32} (a : Pt f p n s l st) (hl : l ≤ 16) : 0 ≤ (lastI st t n).toInt ∧ (lastI st t n).toInt ≤ 40000 := lastI_in (b := 40000) (fun w hw _ => a.ok hl w hw)
/-- the state of a search -/
def sr (f h : MM) (v : Nat → Int32) (lo : Int) (k : Nat) : Prop := agC f h ∧ h 27 6 = nI (clI v k).1 ∧ h 27 5 = (clI v k).2 ∧ ∀ j, j < k → apB j = true → lo ≤ (v j).toInt ∧ (v j).toInt ≤ 100000
theorem sr.no {f h : MM} {v : Nat → Int32} {lo : Int} {k : Nat} (a : sr f h v lo k) (e : apB k = false) : sr f h v lo (k + 1) := by
  obtain ⟨a1, a2, a3, a4⟩ := a
  have ec : clI v (k + 1) = clI v k := by
    show (if apB k = true ∧ v k < (clI v k).2 then (k, v k) else clI v k) = clI v k
    rw [if_neg (by rw [e]; simp)]
  refine ⟨a1, by rw [ec]; exact a2, by rw [ec]; exact a3, fun j hj hh => ?_⟩
  by_cases q : j = k
  · rw [q, e] at hh; cases hh
  · exact a4 j (by omega) hh
theorem sr.yes {f h h2 : MM} {v : Nat → Int32} {lo : Int} {k : Nat} {x : Int32} (a : sr f h v lo k) (e : apB k = true) (b : agC f h2) (b27 : h2 27 = h 27) (hx : x = v k) (hb : lo ≤ (v k).toInt ∧ (v k).toInt ≤ 100000) : sr f (keepF h2 x (nI k)) v lo (k + 1) := by
  subst hx
  obtain ⟨a1, a2, a3, a4⟩ := a
  have a5 : ∀ j, j < k + 1 → apB j = true → lo ≤ (v j).toInt ∧ (v j).toInt ≤ 100000 := by
    intro j hj hh
    by_cases q : j = k
    · rw [q]; exact hb
    · exact a4 j (by omega) hh
  have ec : clI v (k + 1) = if apB k = true ∧ v k < (clI v k).2 then (k, v k) else clI v k := rfl
  unfold keepF
  by_cases q : v k < (clI v k).2
  · rw [if_pos ⟨e, q⟩] at ec
    rw [b27, a3, if_pos q]
    refine ⟨(b.u2 (by omega)).u2 (by omega), ?_, ?_, a5⟩
    · rw [ec]; simp [u2]
    · rw [ec]; simp [u2]
  · rw [if_neg (fun p => q p.2)] at ec
    rw [b27, a3, if_neg q]
    refine ⟨b, ?_, ?_, a5⟩
    · rw [ec, b27]; exact a2
    · rw [ec, b27]; exact a3
theorem sr.ok {f h : MM} {v : Nat → Int32} {lo : Int} (a : sr f h v lo n124) (e : ∀ k, k < n124 → apB k = false → v (31 * (k / 31)) = v k) : vOK v lo n124 := by
  have hN := n124_eq
  have a4 := a.2.2.2
  refine ⟨fun k hk => ?_, fun k hk h => ⟨31 * (k / 31), (ap_no (by omega) h).2, e k hk h⟩⟩
  cases h : apB k with
  | true => exact a4 k hk h
  | false =>
    rw [← e k hk h]
    have := (ap_no (by omega) h).2
    exact a4 _ (by omega) (by simp [apB, show 31 * (k / 31) % 31 = 0 by omega])
