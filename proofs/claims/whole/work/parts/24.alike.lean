/-! A PARTY OF THE CLASS AND THE REFERENCE'S ROW -/
def cR (f : MM) (p n : Nat) (st : Nat → Int32) : Prop := ∀ w, w < n → ∀ j, j < 6 → f (p + 2 + w) j = st (14 + 6 * j + w)
/-- the same ones walk -/
def sS (s t : Int32) (n : Nat) : Prop := ∀ w, w < n → hasB s w = hasB t w
theorem sS.lt {s t : Int32} {n k : Nat} (h : sS s t n) (hk : k ≤ n) : sS s t k := fun w hw => h w (by omega)
def sC (a b : Nat → Int32) (s : Int32) (n : Nat) : Prop := ∀ w, w < n → hasB s w = true → a (38 + w) = b (38 + w)
theorem firstS_has {st : Nat → Int32} {s : Int32} : ∀ {n k : Nat}, firstS st s n = some k → hasB s k = true := by
  intro n
  induction n with
  | zero => intro k h; cases h
  | succ n ih =>
    intro k h
    unfold firstS at h
    split at h
    · rename_i hh
      split at h
      · cases h; exact hh
      · rename_i k' e
        split at h
        · cases h; exact ih e
        · cases h; exact hh
    · exact ih h
theorem firstS_eq {a b : Nat → Int32} {s t : Int32} : ∀ {n : Nat}, sS s t n → sC a b s n → firstS a s n = firstS b t n := by
  intro n
  induction n with
  | zero => intro _ _; rfl
  | succ n ih =>
    intro h1 h2
    have i := ih (fun w hw => h1 w (by omega)) (fun w hw => h2 w (by omega))
    unfold firstS
    rw [← h1 n (by omega), ← i]
    by_cases hh : hasB s n = true
    · rw [if_pos hh, if_pos hh]
      cases e : firstS a s n with
      | none => rfl
      | some k =>
        show (if a (38 + k) ≤ a (38 + n) then some k else some n) = (if b (38 + k) ≤ b (38 + n) then some k else some n)
        rw [h2 n (by omega) hh, h2 k (by have := firstS_lt e; omega) (firstS_has e)]
    · rw [if_neg hh, if_neg hh]
theorem lastI_eq {a b : Nat → Int32} {s t : Int32} : ∀ {n : Nat}, sS s t n → sC a b s n → lastI a s n = lastI b t n := by
  intro n
  induction n with
  | zero => intro _ _; rfl
  | succ n ih =>
    intro h1 h2
    have i := ih (fun w hw => h1 w (by omega)) (fun w hw => h2 w (by omega))
    unfold lastI
    rw [← h1 n (by omega), ← i]
    by_cases hh : hasB s n = true
    · rw [if_pos hh, if_pos hh, h2 n (by omega) hh]
    · rw [if_neg hh, if_neg hh]
theorem ext_is {st : Nat → Int32} {s : Int32} {b : Nat} : ∀ {n : Nat}, okC st s n b → ((extS st s n).1 = true → fcI st s n = (extS st s n).2.1 ∧ lastI st s n = (extS st s n).2.2 ∧ 0 ≤ ((extS st s n).2.1).toInt) ∧ ((extS st s n).1 = false → fcI st s n = -1 ∧ lastI st s n = 0) := by
  intro n
  induction n with
  | zero => intro _; exact ⟨fun h => by simp [extS] at h, fun _ => ⟨rfl, rfl⟩⟩
  | succ n ih =>
    intro h
    obtain ⟨i1, i2⟩ := ih (fun w hw => h w (by omega))
    unfold extS fcI lastI
    by_cases hh : hasB s n = true
    · have k := h n (by omega) hh
      rw [if_pos hh, if_pos hh, if_pos hh]
      refine ⟨fun _ => ?_, fun q => by cases q⟩
      cases e : (extS st s n).1 with
      | true =>
        obtain ⟨a, c, d⟩ := i1 e
        have z : (0 : Int32).toInt = 0 := by decide
        rw [a, c, if_neg (by rw [ti_lt]; omega)]
        refine ⟨rfl, ?_, ?_⟩
        · by_cases q : st (38 + n) ≤ (extS st s n).2.2
          · simp [q]
          · simp [q]
        · show 0 ≤ (if (extS st s n).2.1 ≤ st (38 + n) then (extS st s n).2.1 else st (38 + n)).toInt
          split
          · exact d
          · exact k.1
      | false =>
        obtain ⟨a, c⟩ := i2 e
        rw [a, c, if_pos (by decide)]
        refine ⟨rfl, ?_, ?_⟩
        · show (if st (38 + n) ≤ 0 then 0 else st (38 + n)) = st (38 + n)
          split
          · rename_i q
            rw [ti_le] at q
            have z : (0 : Int32).toInt = 0 := by decide
            exact Int32.toInt_inj.mp (by omega)
          · rfl
        · exact k.1
    · rw [if_neg hh, if_neg hh, if_neg hh]
      exact ⟨i1, i2⟩
theorem ext_has {st : Nat → Int32} {s : Int32} {w : Nat} (hh : hasB s w = true) : ∀ {n : Nat}, w < n → (extS st s n).1 = true ∧ (st (38 + w)).toInt ≤ ((extS st s n).2.2).toInt ∧ ((extS st s n).2.1).toInt ≤ (st (38 + w)).toInt := by
  intro n
  induction n with
  | zero => intro h; omega
  | succ n ih =>
    intro h
    unfold extS
    by_cases hn : hasB s n = true
    · rw [if_pos hn]
      refine ⟨rfl, ?_⟩
      by_cases e : w = n
      · subst e
        dsimp only
        refine ⟨?_, ?_⟩
        · split
          · split
            · rename_i q; exact ti_le.mp q
            · exact Int.le_refl _
          · exact Int.le_refl _
        · split
          · split
            · rename_i q; exact ti_le.mp q
            · exact Int.le_refl _
          · exact Int.le_refl _
      · obtain ⟨i0, i1, i2⟩ := ih (by omega)
        dsimp only
        rw [if_pos i0, if_pos i0]
        refine ⟨?_, ?_⟩
        · split
          · exact i1
          · rename_i q
            rw [ti_le] at q
            omega
        · split
          · exact i2
          · rename_i q
            rw [ti_le] at q
            omega
    · rw [if_neg hn]
      exact ih (by rcases Nat.lt_or_ge w n with z | z; exact z; exact absurd (by rw [← hh, show w = n by omega]) hn)
theorem byW_is {rule m lo hi came : Int32} {b : Nat} (hb : b ≤ 100000) (hm : 0 ≤ m.toInt ∧ m.toInt ≤ 30) (h1 : came.toInt ≤ hi.toInt) (h2 : hi.toInt ≤ b) (h0 : 0 ≤ came.toInt) (hl : 0 ≤ lo.toInt ∧ lo.toInt ≤ came.toInt) : byW rule m lo hi came = leavC rule m came lo hi := by
  unfold byW leavC
  dsimp only
  by_cases r0 : rule = 0
  · simp only [r0, if_true]
    rw [if_pos (ti_le.mpr h1)]
  · rw [if_neg r0, if_neg r0]
    by_cases r1 : rule = 1
    · rw [if_pos r1, if_pos r1]
      rw [if_pos (ti_le.mpr (by rw [ti_add (by omega) (by omega)]; omega))]
    · rw [if_neg r1, if_neg r1]
      by_cases r2 : rule = 2
      · rw [if_pos r2, if_pos r2]
        by_cases q : lo + m < came
        · rw [if_pos q, if_neg (Int32.not_le.mpr q)]
        · rw [if_neg q, if_pos (Int32.not_lt.mp q)]
      · rw [if_neg r2, if_neg r2, if_pos (Int32.le_refl _)]
theorem walkP_32 {n w leg : Nat} {st : Nat → Int32} {s : Int32} (hn : n ≤ 6) (hw : w < n) : walkP n n st s leg (32 + w) = if hasB s w = true then st (32 + w) + moreS st (firstS st s n) w leg else st (32 + w) := by
  unfold walkP
  rw [Nat.add_sub_cancel_left]
  by_cases hh : hasB s w = true
  · rw [if_pos ⟨by omega, by omega, hh⟩, if_pos hh]
  · rw [if_neg (fun q => hh q.2.2), if_neg (by omega), if_neg hh]
theorem walkP_38 {n w leg : Nat} {st : Nat → Int32} {s : Int32} (hn : n ≤ 6) (hw : w < n) : walkP n n st s leg (38 + w) = if hasB s w = true then st (38 + w) + takesS st w leg else st (38 + w) := by
  unfold walkP
  rw [if_neg (by omega), Nat.add_sub_cancel_left]
  by_cases hh : hasB s w = true
  · rw [if_pos ⟨by omega, by omega, hh⟩, if_pos hh]
  · rw [if_neg (fun q => hh q.2.2), if_neg hh]
theorem leaveP_32 {n w : Nat} {st : Nat → Int32} {s : Int32} (hn : n ≤ 6) (hw : w < n) : leaveP n n st s (32 + w) = if hasB s w = true then meW (st (32 + w)) (byS st (extS st s n) w - st (38 + w)) else st (32 + w) := by
  unfold leaveP
  rw [Nat.add_sub_cancel_left]
  by_cases hh : hasB s w = true
  · rw [if_pos ⟨by omega, by omega, hh⟩, if_pos hh]
  · rw [if_neg (fun q => hh q.2.2), if_neg (by omega), if_neg (by omega), if_neg hh]
theorem leaveP_38 {n w : Nat} {st : Nat → Int32} {s : Int32} (hn : n ≤ 6) (hw : w < n) : leaveP n n st s (38 + w) = if hasB s w = true then byS st (extS st s n) w else st (38 + w) := by
  unfold leaveP
  rw [if_neg (by omega), Nat.add_sub_cancel_left]
  by_cases hh : hasB s w = true
  · rw [if_pos ⟨by omega, by omega, hh⟩, if_pos hh]
  · rw [if_neg (fun q => hh q.2.2), if_neg (by omega), if_neg hh]
theorem leaveP_44 {n w : Nat} {st : Nat → Int32} {s : Int32} (hn : n ≤ 6) (hw : w < n) : leaveP n n st s (44 + w) = if hasB s w = true then st (44 + w) + (byS st (extS st s n) w - st (38 + w)) else st (44 + w) := by
  unfold leaveP
  rw [if_neg (by omega), if_neg (by omega), Nat.add_sub_cancel_left]
  by_cases hh : hasB s w = true
  · rw [if_pos ⟨by omega, by omega, hh⟩, if_pos hh]
  · rw [if_neg (fun q => hh q.2.2), if_neg hh]
theorem fcI_eq {a b : Nat → Int32} {s t : Int32} : ∀ {n : Nat}, sS s t n → sC a b s n → fcI a s n = fcI b t n := by
  intro n
  induction n with
  | zero => intro _ _; rfl
  | succ n ih =>
    intro h1 h2
    have i := ih (fun w hw => h1 w (by omega)) (fun w hw => h2 w (by omega))
    unfold fcI
    rw [← h1 n (by omega), ← i]
    by_cases hh : hasB s n = true
    · rw [if_pos hh, if_pos hh, h2 n (by omega) hh]
    · rw [if_neg hh, if_neg hh]
/-- a leg walked -/
theorem walk_cR {f : MM} {p n leg : Nat} {st : Nat → Int32} {s mi : Int32} (hn : n ≤ 6) (hc : cR f p n st) (hs : sS (f p 2) s n) (hm : mi = st leg) {w : Nat} (hw : w < n) :
    C_walk f p n mi (p + 2 + w) 3 = walkP n n st s leg (32 + w) ∧ (hasB s w = true → C_walk f p n mi (p + 2 + w) 6 = walkP n n st s leg (38 + w)) ∧ (∀ j, j ≠ 3 → j ≠ 6 → C_walk f p n mi (p + 2 + w) j = f (p + 2 + w) j) := by
  have c0 := hc w hw 0 (by decide)
  have c1 := hc w hw 1 (by decide)
  have c2 := hc w hw 2 (by decide)
  have c3 := hc w hw 3 (by decide)
  have c4 := hc w hw 4 (by decide)
  have hF : firstS (clk f p 4) (f p 2) n = firstS st s n := firstS_eq hs (fun k hk _ => by rw [clk_at]; exact hc k hk 4 (by decide))
  rw [C_walk_row hw, walkP_32 hn hw, walkP_38 hn hw, hF]
  by_cases hh : hasB s w = true
  · rw [wkF_yes (by rw [hs w hw]; exact hh), if_pos hh, if_pos hh]
    refine ⟨?_, fun _ => ?_, fun j h3 h6 => ?_⟩
    · rw [upd_at, c3, c0, c2, hm]; rfl
    · rw [upd_ne (by decide), upd_at, c4, c0, c1, c2, c3, hm]; rfl
    · rw [upd_ne h3, upd_ne h6]
  · have hf : hasB s w = false := by simpa using hh
    rw [wkF_no (by rw [hs w hw]; exact hf), if_neg hh, if_neg hh]
    exact ⟨c3, fun q => absurd q hh, fun _ _ _ => rfl⟩
/-- nobody waits: the clock is what it was at coming -/
theorem leave3_row {f : MM} {p n w : Nat} {m : Int32} (hw : w < n) (h3 : 0 ≤ (f (p + 2 + w) 3).toInt) : (∀ j, j ≠ 4 → C_leave f p n 3 m (p + 2 + w) j = f (p + 2 + w) j) ∧ C_leave f p n 3 m (p + 2 + w) 4 = if hasB (f p 2) w = true then f (p + 2 + w) 6 else f (p + 2 + w) 4 := by
  rw [C_leave_row hw]
  by_cases hh : hasB (f p 2) w = true
  · have e : leavC 3 m (f (p + 2 + w) 6) (fcI (clk f p 6) (f p 2) n) (lastI (clk f p 6) (f p 2) n) = f (p + 2 + w) 6 := leavC_out (Or.inr (by decide))
    rw [lvF_yes hh, e, if_pos hh]
    have e0 : f (p + 2 + w) 6 - f (p + 2 + w) 6 = 0 := by simp
    have em : meW (f (p + 2 + w) 3) 0 = f (p + 2 + w) 3 := by
      have e1 : f (p + 2 + w) 3 - mendS 0 = f (p + 2 + w) 3 := by
        have : mendS 0 = 0 := by decide
        rw [this]; simp
      unfold meW
      have z : (0 : Int32).toInt = 0 := by decide
      rw [e1, if_pos (show (0 : Int32) ≤ f (p + 2 + w) 3 from ti_le.mpr (by omega))]
    refine ⟨fun j hj => ?_, ?_⟩
    · simp only [leaveR]
      rw [upd_ne hj, e0, em]
      by_cases j3 : j = 3
      · subst j3; rw [upd_at]
      · rw [upd_ne j3]
        by_cases j5 : j = 5
        · subst j5; rw [upd_at]; simp
        · rw [upd_ne j5]
    · simp only [leaveR]
      rw [upd_at]
  · rw [lvF_no (by simpa using hh), if_neg hh]
    exact ⟨fun _ _ => rfl, rfl⟩
theorem j6 {j : Nat} (h : j < 6) : j = 0 ∨ j = 1 ∨ j = 2 ∨ j = 3 ∨ j = 4 ∨ j = 5 := by omega
/-- a leg walked to where nobody waits -/
theorem hut_cR {f : MM} {p n leg l : Nat} {st : Nat → Int32} {s mi m : Int32} (hn : n ≤ 6) (hc : cR f p n st) (hs : sS (f p 2) s n) (hm : mi = st leg) (hg : gP f p n l) (hl : l ≤ 16) (hb : 0 ≤ mi.toInt ∧ mi.toInt ≤ 9) : cR (C_leave (C_walk f p n mi) p n 3 m) p n (walkP n n st s leg) ∧ ∀ w, w < n → hasB s w = true → C_leave (C_walk f p n mi) p n 3 m (p + 2 + w) 6 = walkP n n st s leg (38 + w) := by
  have key : ∀ w, w < n → 0 ≤ (C_walk f p n mi (p + 2 + w) 3).toInt := by
    intro w hw
    rw [C_walk_row hw]
    by_cases hh : hasB (f p 2) w = true
    · exact (wkF_good (hg w hw) hl hb hh).2.2.1
    · rw [wkF_no (by simpa using hh)]
      exact (hg w hw).2.2.2.1.1
  refine ⟨fun w hw j hj => ?_, fun w hw hh => ?_⟩
  · obtain ⟨a, b⟩ := leave3_row (n := n) (m := m) hw (key w hw)
    obtain ⟨w3, w6, wj⟩ := walk_cR hn hc hs hm hw
    rw [C_walk_p (by omega)] at b
    by_cases j4 : j = 4
    · subst j4
      show _ = walkP n n st s leg (38 + w)
      rw [b]
      by_cases hh : hasB s w = true
      · rw [if_pos (by rw [hs w hw]; exact hh)]; exact w6 hh
      · rw [if_neg (by rw [hs w hw]; exact hh), wj 4 (by decide) (by decide), walkP_38 hn hw, if_neg hh]
        exact hc w hw 4 (by decide)
    · rw [a j j4]
      by_cases j3 : j = 3
      · subst j3; exact w3
      · rw [wj j j3 (by omega), hc w hw j hj]
        rcases j6 hj with rfl | rfl | rfl | rfl | rfl | rfl
        · rw [walkP_lo (by omega)]
        · rw [walkP_lo (by omega)]
        · rw [walkP_lo (by omega)]
        · exact absurd rfl j3
        · exact absurd rfl j4
        · rw [walkP_hi (by omega) hn]
  · obtain ⟨a, -⟩ := leave3_row (n := n) (m := m) hw (key w hw)
    rw [a 6 (by decide)]
    exact (walk_cR hn hc hs hm hw).2.1 hh
theorem gate_cR {f : MM} {p n leg l : Nat} {st : Nat → Int32} {s mi ru m v : Int32} (hn : n ≤ 6) (hc : cR f p n st) (hs : sS (f p 2) s n) (hm : mi = st leg) (hg : gP f p n l) (hl : l ≤ 16) (hb : 0 ≤ mi.toInt ∧ mi.toInt ≤ 9) (h10 : st 10 = ru) (h11 : st 11 = m) (hi : 0 ≤ m.toInt ∧ m.toInt ≤ 30) : cR (C_leave (C_walk f p n mi) p n ru m) p n (leaveP n n (upd (walkP n n st s leg) 9 v) s) ∧ ∀ w, w < n → hasB s w = true → C_leave (C_walk f p n mi) p n ru m (p + 2 + w) 6 = walkP n n st s leg (38 + w) := by
  have hs2 : sS (C_walk f p n mi p 2) s n := by intro w hw; rw [C_walk_p (by omega)]; exact hs w hw
  have hC : sC (clk (C_walk f p n mi) p 6) (upd (walkP n n st s leg) 9 v) (C_walk f p n mi p 2) n := by
    intro w hw hh
    rw [clk_at, upd_ne (by omega)]
    exact (walk_cR hn hc hs hm hw).2.1 (by rw [← hs2 w hw]; exact hh)
  have ok : okC (upd (walkP n n st s leg) 9 v) s n (2500 * l + 2232) := by
    intro w hw hh
    have q := wk_ok hg hl hb w hw (by rw [hs w hw]; exact hh)
    rw [hC w hw (by rw [hs2 w hw]; exact hh)] at q
    exact q
  have eF := fcI_eq hs2 hC
  have eL := lastI_eq hs2 hC
  have by_ : ∀ w, w < n → hasB s w = true → leavC ru m (C_walk f p n mi (p + 2 + w) 6) (fcI (clk (C_walk f p n mi) p 6) (C_walk f p n mi p 2) n) (lastI (clk (C_walk f p n mi) p 6) (C_walk f p n mi p 2) n) = byS (upd (walkP n n st s leg) 9 v) (extS (upd (walkP n n st s leg) 9 v) s n) w := by
    intro w hw hh
    obtain ⟨x0, x1, x2⟩ := ext_has (st := upd (walkP n n st s leg) 9 v) hh hw
    obtain ⟨y1, y2, y3⟩ := (ext_is ok).1 x0
    have z := (lastI_in ok).2
    rw [y2] at z
    have e := hC w hw (by rw [hs2 w hw]; exact hh)
    rw [clk_at] at e
    rw [eF, eL, y1, y2, e]
    unfold byS
    rw [byW_is (b := 2500 * l + 2232) (by omega) (by rw [upd_ne (by decide), walkP_lo (by decide), h11]; exact hi) x1 z (ok w hw hh).1 ⟨y3, x2⟩, upd_ne (k := 9) (j := 10) (by decide), upd_ne (k := 9) (j := 11) (by decide), walkP_lo (k := 10) (by decide), walkP_lo (k := 11) (by decide), h10, h11]
  refine ⟨fun w hw j hj => ?_, fun w hw hh => ?_⟩
  · obtain ⟨w3, w6, wj⟩ := walk_cR hn hc hs hm hw
    rw [C_leave_row hw]
    by_cases hh : hasB s w = true
    · rw [lvF_yes (by rw [hs2 w hw]; exact hh), by_ w hw hh]
      rcases j6 hj with rfl | rfl | rfl | rfl | rfl | rfl
      · show leaveR _ _ 0 = _
        simp only [leaveR]
        rw [upd_ne (by decide), upd_ne (by decide), upd_ne (by decide), wj 0 (by decide) (by decide), leaveP_lo (by omega), upd_ne (by omega), walkP_lo (by omega)]
        exact hc w hw 0 (by decide)
      · show leaveR _ _ 1 = _
        simp only [leaveR]
        rw [upd_ne (by decide), upd_ne (by decide), upd_ne (by decide), wj 1 (by decide) (by decide), leaveP_lo (by omega), upd_ne (by omega), walkP_lo (by omega)]
        exact hc w hw 1 (by decide)
      · show leaveR _ _ 2 = _
        simp only [leaveR]
        rw [upd_ne (by decide), upd_ne (by decide), upd_ne (by decide), wj 2 (by decide) (by decide), leaveP_lo (by omega), upd_ne (by omega), walkP_lo (by omega)]
        exact hc w hw 2 (by decide)
      · show leaveR _ _ 3 = leaveP n n _ s (32 + w)
        simp only [leaveR]
        rw [upd_ne (by decide), upd_at, leaveP_32 hn hw, if_pos hh, upd_ne (k := 9) (j := 32 + w) (by omega), upd_ne (k := 9) (j := 38 + w) (by omega), w3, w6 hh]
      · show leaveR _ _ 4 = leaveP n n _ s (38 + w)
        simp only [leaveR]
        rw [upd_at, leaveP_38 hn hw, if_pos hh]
      · show leaveR _ _ 5 = leaveP n n _ s (44 + w)
        simp only [leaveR]
        rw [upd_ne (by decide), upd_ne (by decide), upd_at, leaveP_44 hn hw, if_pos hh, upd_ne (k := 9) (j := 44 + w) (by omega), upd_ne (k := 9) (j := 38 + w) (by omega), wj 5 (by decide) (by decide), w6 hh, walkP_hi (k := 44 + w) (by omega) hn, hc w hw 5 (by decide)]
    · rw [lvF_no (by rw [hs2 w hw]; simpa using hh)]
      rcases j6 hj with rfl | rfl | rfl | rfl | rfl | rfl
      · rw [wj 0 (by decide) (by decide), leaveP_lo (by omega), upd_ne (by omega), walkP_lo (by omega)]
        exact hc w hw 0 (by decide)
      · rw [wj 1 (by decide) (by decide), leaveP_lo (by omega), upd_ne (by omega), walkP_lo (by omega)]
        exact hc w hw 1 (by decide)
      · rw [wj 2 (by decide) (by decide), leaveP_lo (by omega), upd_ne (by omega), walkP_lo (by omega)]
        exact hc w hw 2 (by decide)
      · show _ = leaveP n n _ s (32 + w)
        rw [leaveP_32 hn hw, if_neg hh, upd_ne (by omega)]
        exact w3
      · show _ = leaveP n n _ s (38 + w)
        rw [leaveP_38 hn hw, if_neg hh, upd_ne (by omega), wj 4 (by decide) (by decide), walkP_38 hn hw, if_neg hh]
        exact hc w hw 4 (by decide)
      · show _ = leaveP n n _ s (44 + w)
        rw [leaveP_44 hn hw, if_neg hh, upd_ne (by omega), wj 5 (by decide) (by decide), walkP_hi (k := 44 + w) (by omega) hn]
        exact hc w hw 5 (by decide)
  · rw [C_leave_row hw, lvF_yes (by rw [hs2 w hw]; exact hh)]
    simp only [leaveR]
    rw [upd_ne (by decide), upd_ne (by decide), upd_ne (by decide)]
    exact (walk_cR hn hc hs hm hw).2.1 hh
theorem move_cR {f : MM} {o p n L leg l : Nat} {st : Nat → Int32} {s ru m : Int32} (hn : n ≤ 6) (hc : cR f p n st) (hs : sS (f p 2) s n) (hm : f (o + 1) leg = st leg) (hg : gP f p n l) (hl : l ≤ 16) (hb : 0 ≤ (f (o + 1) leg).toInt ∧ (f (o + 1) leg).toInt ≤ 9) (h10 : st 10 = ru) (h11 : st 11 = m) (hi : 0 ≤ m.toInt ∧ m.toInt ≤ 30) : cR (C_move f o p n L leg ru m) p n (goS n L leg s st) ∧ ∀ w, w < n → hasB s w = true → C_move f o p n L leg ru m (p + 2 + w) 6 = walkP n n st s leg (38 + w) := by
  unfold C_move goS
  dsimp only
  by_cases q : leg + 1 < L
  · rw [if_pos q, if_pos q]
    exact gate_cR hn hc hs hm hg hl hb h10 h11 hi
  · rw [if_neg q, if_neg q]
    obtain ⟨a, b⟩ := hut_cR (m := m) hn hc hs hm hg hl hb
    exact ⟨fun w hw j hj => by rw [upd_ne (by omega)]; exact a w hw j hj, b⟩
