/-! BOUNDS: nothing turns over -/
theorem upd_at {s : Nat → Int32} {k : Nat} {v : Int32} : upd s k v k = v := if_pos rfl
theorem ti_add {x y : Int32} (h1 : -2147483648 ≤ x.toInt + y.toInt) (h2 : x.toInt + y.toInt < 2147483648) : (x + y).toInt = x.toInt + y.toInt := by
  rw [Int32.toInt_add]
  exact Int.bmod_eq_of_le (by omega) (by omega)
theorem ti_sub {x y : Int32} (h1 : -2147483648 ≤ x.toInt - y.toInt) (h2 : x.toInt - y.toInt < 2147483648) : (x - y).toInt = x.toInt - y.toInt := by
  rw [Int32.toInt_sub]
  exact Int.bmod_eq_of_le (by omega) (by omega)
theorem ti_mul {x y : Int32} (h1 : -2147483648 ≤ x.toInt * y.toInt) (h2 : x.toInt * y.toInt < 2147483648) : (x * y).toInt = x.toInt * y.toInt := by
  rw [Int32.toInt_mul]
  exact Int.bmod_eq_of_le (by omega) (by omega)
theorem ti_div {x y : Int32} (hx : 0 ≤ x.toInt) (hy : 0 < y.toInt) : (x / y).toInt = x.toInt / y.toInt := by
  rw [Int32.toInt_div, Int.tdiv_eq_ediv_of_nonneg hx]
  have h := Int.ediv_le_self y.toInt hx
  have h0 := Int.ediv_nonneg hx (Int.le_of_lt hy)
  have := x.toInt_lt
  exact Int.bmod_eq_of_le (by omega) (by omega)
theorem ti_le {x y : Int32} : x ≤ y ↔ x.toInt ≤ y.toInt := Int32.le_iff_toInt_le
theorem ti_lt {x y : Int32} : x < y ↔ x.toInt < y.toInt := Int32.lt_iff_toInt_lt
/-- a walker who has gone at most l legs -/
def goodR (l : Nat) (r : Nat → Int32) : Prop := (1 ≤ (r 0).toInt ∧ (r 0).toInt ≤ 5) ∧ (1 ≤ (r 1).toInt ∧ (r 1).toInt ≤ 20) ∧ (0 ≤ (r 2).toInt ∧ (r 2).toInt ≤ 20) ∧ (0 ≤ (r 3).toInt ∧ (r 3).toInt ≤ 110 * l) ∧ (0 ≤ (r 4).toInt ∧ (r 4).toInt ≤ 2500 * l)
theorem goodR.mono {l k : Nat} {r : Nat → Int32} (h : goodR l r) (hk : l ≤ k) : goodR k r := by
  obtain ⟨a, b, c, d, e⟩ := h
  exact ⟨a, b, c, ⟨d.1, by omega⟩, ⟨e.1, by omega⟩⟩
theorem oneS_in {l : Nat} {r : Nat → Int32} (h : goodR l r) (hl : l ≤ 16) : 1 ≤ (oneS (r 1) (r 2) (r 3)).toInt ∧ (oneS (r 1) (r 2) (r 3)).toInt ≤ 245 := by
  obtain ⟨-, b, c, d, -⟩ := h
  have e2 : (2 : Int32).toInt = 2 := by decide
  have e8 : (8 : Int32).toInt = 8 := by decide
  have a1 : (2 * r 2).toInt = 2 * (r 2).toInt := by rw [ti_mul (by rw [e2]; omega) (by rw [e2]; omega), e2]
  have a2 : (r 3 + 2 * r 2).toInt = (r 3).toInt + 2 * (r 2).toInt := by rw [ti_add (by rw [a1]; omega) (by rw [a1]; omega), a1]
  have a3 : ((r 3 + 2 * r 2) / 8).toInt = ((r 3).toInt + 2 * (r 2).toInt) / 8 := by rw [ti_div (by rw [a2]; omega) (by rw [e8]; decide), a2, e8]
  have a4 : (oneS (r 1) (r 2) (r 3)).toInt = (r 1).toInt + ((r 3).toInt + 2 * (r 2).toInt) / 8 := by
    unfold oneS
    rw [ti_add (by rw [a3]; omega) (by rw [a3]; omega), a3]
  rw [a4]
  omega
theorem goodR.fit {l : Nat} {r : Nat → Int32} (h : goodR l r) (hl : l ≤ 16) : fitW r := by
  refine ⟨?_, by have := oneS_in h hl; omega⟩
  have a := h.1
  by_cases h4 : (r 0).toInt = 4
  · exact Or.inr (Or.inl (Int32.toInt_inj.mp h4))
  · by_cases h5 : (r 0).toInt = 5
    · exact Or.inr (Or.inr (Int32.toInt_inj.mp h5))
    · exact Or.inl (ti_lt.mpr (by show _ < (4 : Int); omega))
theorem mul9 {x y : Int} {b : Int} (hx : 0 ≤ x ∧ x ≤ 9) (hy : 0 ≤ y ∧ y ≤ b) : 0 ≤ x * y ∧ x * y ≤ 9 * b := by
  refine ⟨Int.mul_nonneg hx.1 hy.1, ?_⟩
  exact Int.mul_le_mul hx.2 hy.2 hy.1 (by decide)
theorem tkW_in {l : Nat} {r : Nat → Int32} {m : Int32} (h : goodR l r) (hl : l ≤ 16) (hm : 0 ≤ m.toInt ∧ m.toInt ≤ 9) : 0 ≤ (tkW (r 0) (r 1) (r 2) (r 3) m).toInt ∧ (tkW (r 0) (r 1) (r 2) (r 3) m).toInt ≤ 2232 := by
  have ho := oneS_in h hl
  unfold tkW
  have key : ∀ y : Int32, 0 ≤ y.toInt ∧ y.toInt ≤ 248 → 0 ≤ (m * y).toInt ∧ (m * y).toInt ≤ 2232 := by
    intro y hy
    have := mul9 hm hy
    rw [ti_mul (by omega) (by omega)]
    omega
  have e1 : (1 : Int32).toInt = 1 := by decide
  have e3 : (3 : Int32).toInt = 3 := by decide
  apply key
  split
  · split
    · decide
    · rw [ti_sub (by omega) (by omega), e1]; omega
  · split
    · omega
    · rw [ti_add (by omega) (by omega), e3]; omega
theorem moW_in {l : Nat} {r : Nat → Int32} {m : Int32} {b : Bool} (h : goodR l r) (hm : 0 ≤ m.toInt ∧ m.toInt ≤ 9) : 0 ≤ (moW (r 0) (r 2) m b).toInt ∧ (moW (r 0) (r 2) m b).toInt ≤ 108 := by
  obtain ⟨-, -, c, -, -⟩ := h
  have e1 : (1 : Int32).toInt = 1 := by decide
  have e2 : (2 : Int32).toInt = 2 := by decide
  have a1 : (r 2 / 2).toInt = (r 2).toInt / 2 := by rw [ti_div c.1 (by decide), e2]
  have a2 : (1 + r 2 / 2).toInt = 1 + (r 2).toInt / 2 := by rw [ti_add (by omega) (by omega), a1, e1]
  have a3 := mul9 (b := 11) hm (y := (1 + r 2 / 2).toInt) (by omega)
  have a4 : (m * (1 + r 2 / 2)).toInt = m.toInt * (1 + r 2 / 2).toInt := ti_mul (by omega) (by omega)
  unfold moW
  split
  · rw [ti_add (by omega) (by omega)]; omega
  · split
    · decide
    · split
      · split
        · decide
        · omega
      · omega
theorem mendS_in (r : Int32) : 0 ≤ (mendS r).toInt ∧ (mendS r).toInt ≤ 6 := by
  unfold mendS
  split
  · split
    · split <;> decide
    · decide
  · decide
theorem meW_in {t r : Int32} (h : 0 ≤ t.toInt) : 0 ≤ (meW t r).toInt ∧ (meW t r).toInt ≤ t.toInt := by
  have := mendS_in r
  have := t.toInt_lt
  have e : (t - mendS r).toInt = t.toInt - (mendS r).toInt := ti_sub (by omega) (by omega)
  unfold meW
  split
  · rename_i q
    rw [ti_le] at q
    rw [e] at q ⊢
    have : (0 : Int32).toInt = 0 := by decide
    omega
  · exact ⟨by decide, h⟩
def gP (f : MM) (p n l : Nat) : Prop := ∀ w, w < n → goodR l (f (p + 2 + w))
theorem z_in0 (b : Nat) : 0 ≤ (0 : Int32).toInt ∧ (0 : Int32).toInt ≤ b := by
  have : (0 : Int32).toInt = 0 := by decide
  omega
theorem z_in1 (b : Nat) : -1 ≤ (-1 : Int32).toInt ∧ (-1 : Int32).toInt ≤ b := by
  have : (-1 : Int32).toInt = -1 := by decide
  omega
/-- the clocks that a fold sees -/
def okC (st : Nat → Int32) (s : Int32) (n b : Nat) : Prop := ∀ w, w < n → hasB s w = true → 0 ≤ (st (38 + w)).toInt ∧ (st (38 + w)).toInt ≤ b
theorem lastI_in {st : Nat → Int32} {s : Int32} {b : Nat} : ∀ {n : Nat}, okC st s n b → 0 ≤ (lastI st s n).toInt ∧ (lastI st s n).toInt ≤ b := by
  intro n
  induction n with
  | zero => intro _; exact z_in0 b
  | succ n ih =>
    intro h
    have i := ih (fun w hw => h w (by omega))
    unfold lastI
    split
    · rename_i hh
      have a := h n (by omega) hh
      split
      · exact i
      · exact a
    · exact i
theorem fcI_in {st : Nat → Int32} {s : Int32} {b : Nat} : ∀ {n : Nat}, okC st s n b → -1 ≤ (fcI st s n).toInt ∧ (fcI st s n).toInt ≤ b := by
  intro n
  induction n with
  | zero => intro _; exact z_in1 b
  | succ n ih =>
    intro h
    have i := ih (fun w hw => h w (by omega))
    unfold fcI
    split
    · rename_i hh
      have a := h n (by omega) hh
      split
      · omega
      · split
        · exact i
        · omega
    · exact i
theorem leavC_in {rule m came first last : Int32} {b : Nat} (hb : b ≤ 100000) (hc : 0 ≤ came.toInt ∧ came.toInt ≤ b) (hf : -1 ≤ first.toInt ∧ first.toInt ≤ b) (hl : 0 ≤ last.toInt ∧ last.toInt ≤ b) (hm : 0 ≤ m.toInt ∧ m.toInt ≤ 30) : 0 ≤ (leavC rule m came first last).toInt ∧ (leavC rule m came first last).toInt ≤ b + 30 := by
  have e1 : (last + m).toInt = last.toInt + m.toInt := ti_add (by omega) (by omega)
  have e2 : (first + m).toInt = first.toInt + m.toInt := ti_add (by omega) (by omega)
  unfold leavC
  split
  · omega
  · split
    · omega
    · split
      · split
        · omega
        · rename_i q
          rw [ti_lt] at q
          omega
      · omega
theorem wkF_good {l w : Nat} {s m : Int32} {ah : Option Nat} {r : Nat → Int32} (h : goodR l r) (hl : l ≤ 16) (hm : 0 ≤ m.toInt ∧ m.toInt ≤ 9) (hh : hasB s w = true) : 0 ≤ (wkF s m ah w r 6).toInt ∧ (wkF s m ah w r 6).toInt ≤ 2500 * l + 2232 ∧ 0 ≤ (wkF s m ah w r 3).toInt ∧ (wkF s m ah w r 3).toInt ≤ 110 * l + 108 := by
  have a := tkW_in h hl hm
  have b := moW_in (b := decide (ah = some w)) h hm
  obtain ⟨-, -, -, d, e⟩ := h
  unfold wkF
  rw [if_pos hh]
  have e6 : upd (upd r 6 (r 4 + tkW (r 0) (r 1) (r 2) (r 3) m)) 3 (r 3 + moW (r 0) (r 2) m (decide (ah = some w))) 6 = r 4 + tkW (r 0) (r 1) (r 2) (r 3) m := by simp [upd]
  have e3 : upd (upd r 6 (r 4 + tkW (r 0) (r 1) (r 2) (r 3) m)) 3 (r 3 + moW (r 0) (r 2) m (decide (ah = some w))) 3 = r 3 + moW (r 0) (r 2) m (decide (ah = some w)) := by simp [upd]
  rw [e6, e3, ti_add (by omega) (by omega), ti_add (by omega) (by omega)]
  omega
theorem C_walk_row {f : MM} {p n w : Nat} {m : Int32} (h : w < n) : C_walk f p n m (p + 2 + w) = wkF (f p 2) m (firstS (clk f p 4) (f p 2) n) w (f (p + 2 + w)) := mapK_in h
theorem C_leave_row {f : MM} {p n w : Nat} {r m : Int32} (h : w < n) : C_leave f p n r m (p + 2 + w) = lvF (f p 2) r m (fcI (clk f p 6) (f p 2) n) (lastI (clk f p 6) (f p 2) n) w (f (p + 2 + w)) := mapK_in h
theorem wkF_no {s m : Int32} {ah : Option Nat} {w : Nat} {r : Nat → Int32} (h : hasB s w = false) : wkF s m ah w r = r := by unfold wkF; rw [if_neg (by rw [h]; decide)]
theorem lvF_no {s r m a b : Int32} {w : Nat} {t : Nat → Int32} (h : hasB s w = false) : lvF s r m a b w t = t := by unfold lvF; rw [if_neg (by rw [h]; decide)]
theorem lvF_yes {s r m a b : Int32} {w : Nat} {t : Nat → Int32} (h : hasB s w = true) : lvF s r m a b w t = leaveR t (leavC r m (t 6) a b) := by unfold lvF; rw [if_pos h]
theorem wkF_yes {s m : Int32} {ah : Option Nat} {w : Nat} {r : Nat → Int32} (h : hasB s w = true) : wkF s m ah w r = upd (upd r 6 (r 4 + tkW (r 0) (r 1) (r 2) (r 3) m)) 3 (r 3 + moW (r 0) (r 2) m (decide (ah = some w))) := by unfold wkF; rw [if_pos h]
theorem wk_ok {f : MM} {p n l : Nat} {m : Int32} (h : gP f p n l) (hl : l ≤ 16) (hm : 0 ≤ m.toInt ∧ m.toInt ≤ 9) : okC (clk (C_walk f p n m) p 6) (f p 2) n (2500 * l + 2232) := by
  intro w hw hh
  rw [clk_at, C_walk_row hw]
  have := wkF_good (w := w) (s := f p 2) (ah := firstS (clk f p 4) (f p 2) n) (h w hw) hl hm hh
  omega
theorem C_move_good {f : MM} {o p n L leg l : Nat} {ru mi : Int32} (h : gP f p n l) (hl : l ≤ 16) (hm : 0 ≤ (f (o + 1) leg).toInt ∧ (f (o + 1) leg).toInt ≤ 9) (hi : 0 ≤ mi.toInt ∧ mi.toInt ≤ 30) : gP (C_move f o p n L leg ru mi) p n (l + 1) := by
  intro w hw
  unfold C_move
  rw [C_leave_row hw, C_walk_p (by omega), C_walk_row hw]
  by_cases hh : hasB (f p 2) w = true
  · have k := wkF_good (w := w) (s := f p 2) (ah := firstS (clk f p 4) (f p 2) n) (h w hw) hl hm hh
    have ok := wk_ok h hl hm
    have a := fcI_in ok
    have b := lastI_in ok
    have c := leavC_in (rule := if leg + 1 < L then ru else 3) (b := 2500 * l + 2232) (by omega) ⟨k.1, by have := k.2.1; omega⟩ a b hi
    rw [lvF_yes hh]
    obtain ⟨g0, g1, g2, -, -⟩ := h w hw
    rw [wkF_yes hh] at k c ⊢
    refine ⟨?_, ?_, ?_, ?_, ?_⟩
    · simpa [leaveR, upd] using g0
    · simpa [leaveR, upd] using g1
    · simpa [leaveR, upd] using g2
    · have q := meW_in (r := leavC (if leg + 1 < L then ru else 3) mi (upd (upd (f (p + 2 + w)) 6 (f (p + 2 + w) 4 + tkW (f (p + 2 + w) 0) (f (p + 2 + w) 1) (f (p + 2 + w) 2) (f (p + 2 + w) 3) (f (o + 1) leg))) 3 (f (p + 2 + w) 3 + moW (f (p + 2 + w) 0) (f (p + 2 + w) 2) (f (o + 1) leg) (decide (firstS (clk f p 4) (f p 2) n = some w))) 6) (fcI (clk (C_walk f p n (f (o + 1) leg)) p 6) (f p 2) n) (lastI (clk (C_walk f p n (f (o + 1) leg)) p 6) (f p 2) n) - (upd (upd (f (p + 2 + w)) 6 (f (p + 2 + w) 4 + tkW (f (p + 2 + w) 0) (f (p + 2 + w) 1) (f (p + 2 + w) 2) (f (p + 2 + w) 3) (f (o + 1) leg))) 3 (f (p + 2 + w) 3 + moW (f (p + 2 + w) 0) (f (p + 2 + w) 2) (f (o + 1) leg) (decide (firstS (clk f p 4) (f p 2) n = some w)))) 6) k.2.2.1
      have k4 := k.2.2.2
      simp only [leaveR]
      rw [upd_ne (by decide), upd_at]
      omega
    · simp only [leaveR]
      rw [upd_at]
      omega
  · have hf : hasB (f p 2) w = false := by simpa using hh
    rw [lvF_no hf, wkF_no hf]
    exact (h w hw).mono (by omega)
