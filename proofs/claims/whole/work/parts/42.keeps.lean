/-! CLASS AND REFERENCE STAY SIDE BY SIDE -/
theorem Inv.rows {kn : Nat} {f h : MM} (I : Inv kn f) (hrow : IRow h) (hf : h 0 8 = h 85 3) (e : ∀ k, k ≠ 0 → ¬ (49 ≤ k ∧ k < 65) → k ≠ 85 → ¬ (86 ≤ k ∧ k ≤ 88) → k ≠ 90 → h k = f k) (e85 : ∀ b, b ≠ 3 → h 85 b = f 85 b) : Inv kn h := by
  have E : ∀ k, k ≠ 0 → ¬ (49 ≤ k ∧ k < 65) → ¬ (85 ≤ k ∧ k ≤ 90) → h k = f k := fun k h1 h2 h3 => e k h1 h2 (by omega) (by omega) (by omega)
  refine ⟨hrow, hf, I.tap.cg (E 3 (by omega) (by omega) (by omega)) (E 91 (by omega) (by omega) (by omega)) (by rw [E 2 (by omega) (by omega) (by omega)]) (e85 8 (by omega)), ?_, I.now.cg (fun k h1 h2 => E k (by omega) (by omega) (by omega)) (fun t _ => by rw [e 89 (by omega) (by omega) (by omega) (by omega) (by omega)]), I.told.cg (by rw [E 4 (by omega) (by omega) (by omega)]) (e85 4 (by omega)), I.spa.cg (fun k h1 h2 => E k (by omega) (by omega) (by omega)), I.img.cg (fun k h1 h2 => E k (by omega) (by omega) (by omega)) (E 99 (by omega) (by omega) (by omega)) (E 100 (by omega) (by omega) (by omega)) (Or.inl (e85 4 (by omega))), I.act.cg (fun k hk => E k (by omega) (by omega) (by omega)) (E 25 (by omega) (by omega) (by omega)) (E 93 (by omega) (by omega) (by omega)) (e85 18 (by omega)) (e85 4 (by omega)), I.ask.cg (E 47 (by omega) (by omega) (by omega)) (E 48 (by omega) (by omega) (by omega)) (E 101 (by omega) (by omega) (by omega)) (e85 27 (by omega)), I.zero.cg (E 6 (by omega) (by omega) (by omega)) (e85 4 (by omega))⟩
  rw [E 2 (by omega) (by omega) (by omega), e85 9 (by omega)]
  exact I.flt
theorem u2_at {g : MM} {c b : Nat} {v : Int32} : u2 g c b v c b = v := by simp [u2]
theorem u2_nb {g : MM} {c b t : Nat} {v : Int32} (h : t ≠ b) : u2 g c b v c t = g c t := by simp [u2, h]
theorem Inv.stat {kn : Nat} {f : MM} (I : Inv kn f) (x : Int32) : Inv kn (u2 (u2 f 0 8 x) 85 3 x) := by
  refine I.rows (I.row.cg (fun k hk => by rw [u2_row (by omega), u2_row (by omega)])) ?_ (fun k h1 h2 h3 h4 h5 => by rw [u2_row h3, u2_row h1]) (fun b hb => by rw [u2_nb hb, u2_row (by decide)])
  rw [u2_row (by decide), u2_at, u2_at]
theorem C_make_ne {f : MM} {r k : Nat} {l n : Int32} (h : k ≠ 49 + 2 * r) (h2 : k ≠ 50 + 2 * r) : C_make f r l n k = f k := by
  funext b
  unfold C_make
  rw [if_neg (fun q => h2 q.1), u2_row h, u2_row h, u2_row h]
theorem C_make_0 {f : MM} {r : Nat} {l n : Int32} : C_make f r l n (49 + 2 * r) 1 = 0 ∧ C_make f r l n (49 + 2 * r) 2 = l ∧ C_make f r l n (49 + 2 * r) 3 = n := by
  unfold C_make
  refine ⟨?_, ?_, ?_⟩ <;> rw [if_neg (by omega)] <;> simp [u2]
theorem C_make_1 {f : MM} {r b : Nat} {l n : Int32} (h : b < 40) : C_make f r l n (50 + 2 * r) b = 0 := by
  unfold C_make
  rw [if_pos (by omega)]
theorem rowF_ne {f : MM} {j k : Nat} {l n : Int32} (h : k ≠ 85) (h2 : ¬ (86 ≤ k ∧ k ≤ 88)) : R_rowF f j l n k = f k := by
  funext b
  unfold R_rowF
  rw [u2_row h]
  show (if k = 88 ∧ 40 * j ≤ b ∧ b < 40 * j + 40 then 0 else u2 (u2 f 86 j l) 87 j n k b) = f k b
  rw [if_neg (by omega), u2_row (by omega), u2_row (by omega)]
theorem rowF_85 {f : MM} {j b : Nat} {l n : Int32} : R_rowF f j l n 85 b = if b = 3 then 0 else f 85 b := by
  unfold R_rowF
  by_cases e : b = 3
  · rw [e, u2_at, if_pos rfl]
  · rw [u2_nb e, if_neg e]
    show (if 85 = 88 ∧ 40 * j ≤ b ∧ b < 40 * j + 40 then 0 else u2 (u2 f 86 j l) 87 j n 85 b) = f 85 b
    rw [if_neg (by omega), u2_row (by decide), u2_row (by decide)]
theorem rowF_86 {f : MM} {j b : Nat} {l n : Int32} : R_rowF f j l n 86 b = if b = j then l else f 86 b := by
  unfold R_rowF
  rw [u2_row (by decide)]
  show (if 86 = 88 ∧ 40 * j ≤ b ∧ b < 40 * j + 40 then 0 else u2 (u2 f 86 j l) 87 j n 86 b) = _
  rw [if_neg (by omega), u2_row (by decide)]
  by_cases e : b = j
  · rw [e, u2_at, if_pos rfl]
  · rw [u2_nb e, if_neg e]
theorem rowF_87 {f : MM} {j b : Nat} {l n : Int32} : R_rowF f j l n 87 b = if b = j then n else f 87 b := by
  unfold R_rowF
  rw [u2_row (by decide)]
  show (if 87 = 88 ∧ 40 * j ≤ b ∧ b < 40 * j + 40 then 0 else u2 (u2 f 86 j l) 87 j n 87 b) = _
  rw [if_neg (by omega)]
  by_cases e : b = j
  · rw [e, u2_at, if_pos rfl]
  · rw [u2_nb e, if_neg e, u2_row (by decide)]
theorem rowF_88 {f : MM} {j b : Nat} {l n : Int32} : R_rowF f j l n 88 b = if 40 * j ≤ b ∧ b < 40 * j + 40 then 0 else f 88 b := by
  unfold R_rowF
  rw [u2_row (by decide)]
  show (if 88 = 88 ∧ 40 * j ≤ b ∧ b < 40 * j + 40 then 0 else u2 (u2 f 86 j l) 87 j n 88 b) = _
  by_cases e : 40 * j ≤ b ∧ b < 40 * j + 40
  · rw [if_pos ⟨rfl, e⟩, if_pos e]
  · rw [if_neg (fun q => e q.2), if_neg e, u2_row (by decide), u2_row (by decide)]
theorem in40 {c : Int32} (h : c ≤ 40) (h0 : 0 ≤ c) : ∃ m, m ≤ 40 ∧ c = nI m := by
  obtain ⟨m, hm, rfl⟩ := nI_of (x := c) (Int32.not_lt.mpr h0)
  refine ⟨m, ?_, rfl⟩
  have := (nI_leI (a := m) (b := 40) hm (by decide)).mp h
  exact this
theorem s_row {kn : Nat} {f : MM} (I : Inv kn f) {a b c : Int32} : (R_row (CR_row f a b c) a b c).1 = (R_row f a b c).1 ∧ Inv kn (R_row (CR_row f a b c) a b c).2 := by
  unfold R_row CR_row
  by_cases h1 : inR a 8 = true
  · simp only [if_pos h1]
    by_cases h2 : inR b 3 = true
    · simp only [if_pos h2]
      by_cases h3 : c ≤ 40
      · simp only [if_pos h3]
        by_cases h4 : 0 ≤ c
        · simp only [if_pos h4]
          refine ⟨trivial, ?_⟩
          obtain ⟨j, hj, rfl⟩ := inR_of h1
          obtain ⟨m, hm, rfl⟩ := in40 h3 h4
          rw [tn_nI (by omega)]
          refine I.rows (fun r hr => ?_) ?_ (fun k k1 k2 k3 k4 k5 => ?_) (fun t ht => ?_)
          · by_cases e : r = j
            · subst e
              refine Or.inr ⟨?_, m, hm, ?_, ?_, ?_, fun t ht => ?_⟩
              · rw [rowF_ne (by omega) (by omega), u2_row (by omega)]; exact C_make_0.1
              · rw [rowF_87, if_pos rfl]
              · rw [rowF_ne (by omega) (by omega), u2_row (by omega)]; exact C_make_0.2.2
              · rw [rowF_ne (by omega) (by omega), u2_row (by omega), rowF_86, if_pos rfl]; exact C_make_0.2.1
              · rw [rowF_ne (by omega) (by omega), u2_row (by omega), C_make_1 ht, rowF_88, if_pos (by omega)]
            · refine (I.row r hr).cg ?_ ?_ ?_ ?_ (fun t ht => ?_)
              · rw [rowF_ne (by omega) (by omega), u2_row (by omega), C_make_ne (by omega) (by omega)]
              · rw [rowF_ne (by omega) (by omega), u2_row (by omega), C_make_ne (by omega) (by omega)]
              · rw [rowF_86, if_neg e, u2_row (by omega), C_make_ne (by omega) (by omega)]
              · rw [rowF_87, if_neg e, u2_row (by omega), C_make_ne (by omega) (by omega)]
              · rw [rowF_88, if_neg (by omega), u2_row (by omega), C_make_ne (by omega) (by omega)]
          · rw [rowF_ne (by omega) (by omega), u2_at, rowF_85, if_pos rfl]
          · rw [rowF_ne k3 k4, u2_row k1, C_make_ne (by omega) (by omega)]
          · rw [rowF_85, if_neg ht, u2_row (by omega), C_make_ne (by omega) (by omega)]
        · simp only [if_neg h4]
          exact ⟨trivial, I.stat 4⟩
      · simp only [if_neg h3]
        exact ⟨trivial, I⟩
    · simp only [if_neg h2]
      exact ⟨trivial, I⟩
  · simp only [if_neg h1]
    exact ⟨trivial, I⟩
theorem s_set {kn : Nat} {f : MM} (I : Inv kn f) {a b c : Int32} : (R_set (CR_set f a b c) a b c).1 = (R_set f a b c).1 ∧ Inv kn (R_set (CR_set f a b c) a b c).2 := by
  unfold R_set CR_set
  by_cases h1 : inR a 8 = true
  · simp only [if_pos h1]
    obtain ⟨j, hj, rfl⟩ := inR_of h1
    rw [tn_nI (by omega)]
    by_cases h2 : 0 ≤ f 87 j
    · simp only [if_pos h2]
      obtain ⟨m, hm, em⟩ := I.row.sz.of hj h2
      have tm : tn (f 87 j) = m := by rw [em]; exact tn_nI (by omega)
      by_cases h3 : inR b (tn (f 87 j)) = true
      · simp only [if_pos h3]
        rw [tm] at h3
        obtain ⟨i, hi, rfl⟩ := inR_of h3
        rw [tn_nI (by omega)]
        have e87 : ∀ t v, u2 (u2 f (50 + 2 * j) i v) 0 8 0 87 t = f 87 t := fun t v => by rw [u2_row (by omega), u2_row (by omega)]
        have e86 : ∀ t v, u2 (u2 f (50 + 2 * j) i v) 0 8 0 86 t = f 86 t := fun t v => by rw [u2_row (by omega), u2_row (by omega)]
        simp only [e87, e86]
        rw [if_pos h2, if_pos (by rw [tm]; exact h3)]
        dsimp only
        refine ⟨rfl, ?_⟩
        refine I.rows (fun r hr => ?_) ?_ (fun k k1 k2 k3 k4 k5 => ?_) (fun t ht => ?_)
        · by_cases e : r = j
          · subst e
            have q := I.row r hr
            rcases q with q | ⟨q0, m2, q1, q2, q3, q4, q5⟩
            · rw [q.2] at h2; exact absurd h2 (by decide)
            · refine Or.inr ⟨?_, m2, q1, ?_, ?_, ?_, fun t ht => ?_⟩
              · rw [u2_row (by omega), u2_row (by omega), u2_row (by omega), u2_row (by omega)]; exact q0
              · rw [u2_row (by omega), u2_row (by omega), e87]; exact q2
              · rw [u2_row (by omega), u2_row (by omega), u2_row (by omega), u2_row (by omega)]; exact q3
              · rw [u2_row (by omega), u2_row (by omega), u2_row (by omega), u2_row (by omega), u2_row (by omega), u2_row (by omega), e86]; exact q4
              · rw [u2_row (show 50 + 2 * r ≠ 85 by omega), u2_row (show 50 + 2 * r ≠ 88 by omega), u2_row (show 50 + 2 * r ≠ 0 by omega), u2_row (show (88 : Nat) ≠ 85 by decide)]
                by_cases z : t = i
                · subst z
                  rw [u2_at, u2_at]
                · rw [u2_nb z, u2_nb (show 40 * r + t ≠ 40 * r + i by omega), u2_row (show (88 : Nat) ≠ 0 by decide), u2_row (show 88 ≠ 50 + 2 * r by omega)]
                  exact q5 t ht
          · refine (I.row r hr).cg ?_ ?_ ?_ ?_ (fun t ht => ?_)
            · rw [u2_row (by omega), u2_row (by omega), u2_row (by omega), u2_row (by omega)]
            · rw [u2_row (by omega), u2_row (by omega), u2_row (by omega), u2_row (by omega)]
            · rw [u2_row (by omega), u2_row (by omega), e86]
            · rw [u2_row (by omega), u2_row (by omega), e87]
            · rw [u2_row (by omega), u2_nb (by omega), u2_row (by omega), u2_row (by omega)]
        · rw [u2_row (by omega), u2_row (by omega), u2_at, u2_at]
        · rw [u2_row k3, u2_row (by omega), u2_row k1, u2_row (by omega)]
        · rw [u2_nb ht, u2_row (by omega), u2_row (by omega), u2_row (by omega)]
      · simp only [if_neg h3]
        have e87 : u2 f 0 8 2 87 j = f 87 j := by rw [u2_row (by omega)]
        simp only [e87]
        rw [if_pos h2, if_neg h3]
        exact ⟨rfl, I.stat 2⟩
    · simp only [if_neg h2]
      have e87 : u2 f 0 8 1 87 j = f 87 j := by rw [u2_row (by omega)]
      simp only [e87]
      rw [if_neg h2]
      exact ⟨rfl, I.stat 1⟩
  · simp only [if_neg h1]
    exact ⟨trivial, I⟩
theorem s_drop {kn : Nat} {f : MM} (I : Inv kn f) {a : Int32} : (R_drop (CR_drop f a) a).1 = (R_drop f a).1 ∧ Inv kn (R_drop (CR_drop f a) a).2 := by
  unfold R_drop CR_drop
  by_cases h1 : inR a 8 = true
  · simp only [if_pos h1]
    obtain ⟨j, hj, rfl⟩ := inR_of h1
    rw [tn_nI (by omega)]
    by_cases h2 : 0 ≤ f 87 j
    · simp only [if_pos h2]
      have e87 : ∀ t, u2 (u2 f (49 + 2 * j) 1 1) 0 8 0 87 t = f 87 t := fun t => by rw [u2_row (by omega), u2_row (by omega)]
      simp only [e87]
      rw [if_pos h2]
      dsimp only
      refine ⟨rfl, I.rows (fun r hr => ?_) ?_ (fun k k1 k2 k3 k4 k5 => ?_) (fun t ht => ?_)⟩
      · by_cases e : r = j
        · subst e
          refine Or.inl ⟨?_, ?_⟩
          · rw [u2_row (by omega), u2_row (by omega), u2_row (by omega), u2_at]
          · rw [u2_row (by omega), u2_at]
        · refine (I.row r hr).cg ?_ ?_ ?_ ?_ (fun t ht => ?_)
          · rw [u2_row (by omega), u2_row (by omega), u2_row (by omega), u2_row (by omega)]
          · rw [u2_row (by omega), u2_row (by omega), u2_row (by omega), u2_row (by omega)]
          · rw [u2_row (by omega), u2_row (by omega), u2_row (by omega), u2_row (by omega)]
          · rw [u2_row (by omega), u2_nb e, e87]
          · rw [u2_row (by omega), u2_row (by omega), u2_row (by omega), u2_row (by omega)]
      · rw [u2_row (by omega), u2_row (by omega), u2_at, u2_at]
      · rw [u2_row k3, u2_row (by omega), u2_row k1, u2_row (by omega)]
      · rw [u2_nb ht, u2_row (by omega), u2_row (by omega), u2_row (by omega)]
    · simp only [if_neg h2]
      have e87 : u2 f 0 8 1 87 j = f 87 j := by rw [u2_row (by omega)]
      simp only [e87]
      rw [if_neg h2]
      exact ⟨rfl, I.stat 1⟩
  · simp only [if_neg h1]
    exact ⟨trivial, I⟩
theorem copyF_ne {f : MM} {a i b j n k : Nat} (h : k ≠ 85) (h2 : k ≠ 88) (h3 : k ≠ 90) : R_copyF f a i b j n k = f k := by
  unfold R_copyF
  rw [u2_row h, fillM_row h2, fillM_row h3]
theorem copyF_85 {f : MM} {a i b j n t : Nat} : R_copyF f a i b j n 85 t = if t = 3 then 0 else f 85 t := by
  unfold R_copyF
  by_cases e : t = 3
  · rw [e, u2_at, if_pos rfl]
  · rw [u2_nb e, if_neg e, fillM_row (by decide), fillM_row (by decide)]
theorem copyF_88 {f : MM} {a i b j n t : Nat} : R_copyF f a i b j n 88 t = if 40 * b + j ≤ t ∧ t < 40 * b + j + n then f 88 (40 * a + i + (t - (40 * b + j))) else f 88 t := by
  unfold R_copyF
  rw [u2_row (by decide)]
  by_cases e : 40 * b + j ≤ t ∧ t < 40 * b + j + n
  · rw [fillM_in e.1 e.2, if_pos e]
  · rw [fillM_out (by omega), if_neg e, fillM_row (by decide)]
theorem s_copyF {kn : Nat} {f : MM} (I : Inv kn f) {a i b j n m y : Nat} (ha : a < 8) (hb : b < 8) (hm : m ≤ 40) (hy : y ≤ 40) (h1 : i + n ≤ m) (h2 : j + n ≤ y) (ea : f 87 a = nI m) (eb : f 87 b = nI y) : Inv kn (R_copyF (CR_copyF f a i b j n) a i b j n) := by
  have ra : ∀ t, t < 40 → f (50 + 2 * a) t = f 88 (40 * a + t) := by
    rcases I.row a ha with q | ⟨-, -, -, -, -, -, q⟩
    · rw [q.2] at ea
      have := congrArg Int32.toInt ea
      rw [nI_toInt (by omega)] at this
      exact absurd this (by have : (-1 : Int32).toInt = -1 := by decide
                            omega)
    · exact q
  have eC : ∀ k, k ≠ 0 → k ≠ 50 + 2 * b → CR_copyF f a i b j n k = f k := fun k k0 k1 => by unfold CR_copyF; rw [u2_row k0, up_ne k1]
  have eB : CR_copyF f a i b j n (50 + 2 * b) = va_cpy (f (50 + 2 * a)) (f (50 + 2 * b)) i j n := by unfold CR_copyF; rw [u2_row (by omega), up_at]
  have e0 : CR_copyF f a i b j n 0 8 = 0 := by unfold CR_copyF; rw [u2_at]
  refine I.rows (fun r hr => ?_) ?_ (fun k k1 k2 k3 k4 k5 => ?_) (fun t ht => ?_)
  · by_cases e : r = b
    · subst e
      rcases I.row r hr with q | ⟨q0, m2, q1, q2, q3, q4, q5⟩
      · rw [q.2] at eb
        have := congrArg Int32.toInt eb
        rw [nI_toInt (by omega)] at this
        exact absurd this (by have : (-1 : Int32).toInt = -1 := by decide
                              omega)
      · refine Or.inr ⟨?_, m2, q1, ?_, ?_, ?_, fun t ht => ?_⟩
        · rw [copyF_ne (by omega) (by omega) (by omega), eC _ (by omega) (by omega)]; exact q0
        · rw [copyF_ne (by omega) (by omega) (by omega), eC _ (by omega) (by omega)]; exact q2
        · rw [copyF_ne (by omega) (by omega) (by omega), eC _ (by omega) (by omega)]; exact q3
        · rw [copyF_ne (by omega) (by omega) (by omega), eC _ (by omega) (by omega), copyF_ne (by omega) (by omega) (by omega), eC _ (by omega) (by omega)]; exact q4
        · rw [copyF_ne (by omega) (by omega) (by omega), eB, copyF_88, eC 88 (by omega) (by omega)]
          unfold va_cpy
          by_cases z : j ≤ t ∧ t < j + n
          · rw [if_pos z, if_pos (by omega), ra _ (by omega)]
            congr 1
            omega
          · rw [if_neg z, if_neg (by omega)]
            exact q5 t ht
    · refine (I.row r hr).cg ?_ ?_ ?_ ?_ (fun t ht => ?_)
      · rw [copyF_ne (by omega) (by omega) (by omega), eC _ (by omega) (by omega)]
      · rw [copyF_ne (by omega) (by omega) (by omega), eC _ (by omega) (by omega)]
      · rw [copyF_ne (by omega) (by omega) (by omega), eC _ (by omega) (by omega)]
      · rw [copyF_ne (by omega) (by omega) (by omega), eC _ (by omega) (by omega)]
      · rw [copyF_88, if_neg (by omega), eC _ (by omega) (by omega)]
  · rw [copyF_ne (by omega) (by omega) (by omega), e0, copyF_85, if_pos rfl]
  · rw [copyF_ne k3 (by omega) k5, eC _ k1 (by omega)]
  · rw [copyF_85, if_neg ht, eC _ (by omega) (by omega)]
theorem s_copy {kn : Nat} {f : MM} (I : Inv kn f) {a b c d e : Int32} : (R_copy (CR_copy f a b c d e) a b c d e).1 = (R_copy f a b c d e).1 ∧ Inv kn (R_copy (CR_copy f a b c d e) a b c d e).2 := by
  unfold R_copy CR_copy
  by_cases h1 : inR a 8 = true
  · simp only [if_pos h1]
    obtain ⟨j, hj, rfl⟩ := inR_of h1
    rw [tn_nI (by omega)]
    by_cases h2 : inR c 8 = true
    · simp only [if_pos h2]
      obtain ⟨r, hr, rfl⟩ := inR_of h2
      rw [tn_nI (by omega)]
      have eS : ∀ (x : Int32) (k : Nat), k ≠ 0 → u2 f 0 8 x k = f k := fun x k hk => u2_row hk
      by_cases h3 : 0 ≤ f 87 j
      · simp only [if_pos h3]
        obtain ⟨m, hm, em⟩ := I.row.sz.of hj h3
        have tm : tn (f 87 j) = m := by rw [em]; exact tn_nI (by omega)
        by_cases h4 : 0 ≤ f 87 r
        · simp only [if_pos h4]
          obtain ⟨y, hy, ey⟩ := I.row.sz.of hr h4
          have ty : tn (f 87 r) = y := by rw [ey]; exact tn_nI (by omega)
          by_cases h5 : f 86 j = f 86 r
          · simp only [if_pos h5]
            by_cases h6 : hold b e (tn (f 87 j)) = true
            · simp only [if_pos h6]
              by_cases h7 : hold d e (tn (f 87 r)) = true
              · simp only [if_pos h7]
                rw [tm] at h6
                rw [ty] at h7
                obtain ⟨p1, w1, s1, rfl, rfl⟩ := hold_of h6
                obtain ⟨p2, w2, s2, rfl, e2⟩ := hold_of h7
                obtain rfl : w1 = w2 := by
                  have := congrArg Int32.toNatClampNeg e2
                  rw [nI_clamp (by omega), nI_clamp (by omega)] at this
                  exact this
                rw [tn_nI (show p1 < 2147483648 by omega), tn_nI (show p2 < 2147483648 by omega), tn_nI (show w1 < 2147483648 by omega)]
                have eC : ∀ k, k ≠ 0 → k ≠ 50 + 2 * r → CR_copyF f j p1 r p2 w1 k = f k := fun k k0 k1 => by unfold CR_copyF; rw [u2_row k0, up_ne k1]
                have e87 := eC 87 (by omega) (by omega)
                have e86 := eC 86 (by omega) (by omega)
                simp only [e87, e86]
                rw [if_pos h3, if_pos h4, if_pos h5, if_pos (by rw [tm]; exact h6), if_pos (by rw [ty]; exact h7)]
                exact ⟨rfl, s_copyF I hj hr hm hy s1 s2 em ey⟩
              · simp only [if_neg h7, eS 2 87 (by decide), eS 2 86 (by decide)]
                rw [if_pos h3, if_pos h4, if_pos h5, if_pos h6]
                exact ⟨rfl, I.stat 2⟩
            · simp only [if_neg h6, eS 2 87 (by decide), eS 2 86 (by decide)]
              rw [if_pos h3, if_pos h4, if_pos h5]
              exact ⟨rfl, I.stat 2⟩
          · simp only [if_neg h5, eS 5 87 (by decide), eS 5 86 (by decide)]
            rw [if_pos h3, if_pos h4]
            exact ⟨rfl, I.stat 5⟩
        · simp only [if_neg h4, eS 1 87 (by decide), eS 1 86 (by decide)]
          rw [if_pos h3]
          exact ⟨rfl, I.stat 1⟩
      · simp only [if_neg h3, eS 1 87 (by decide), eS 1 86 (by decide)]
        exact ⟨trivial, I.stat 1⟩
    · simp only [if_neg h2]
      exact ⟨trivial, I⟩
  · simp only [if_neg h1]
    exact ⟨trivial, I⟩
theorem s_feed {kn : Nat} {f : MM} (I : Inv kn f) {a : Int32} : (R_feed (CR_feed f a) a).1 = (R_feed f a).1 ∧ Inv kn (R_feed (CR_feed f a) a).2 := by
  unfold R_feed CR_feed
  by_cases h1 : inR a 256 = true
  · simp only [if_pos h1]
    by_cases h2 : f 85 8 = 120
    · simp only [if_pos h2]
      exact ⟨trivial, I⟩
    · simp only [if_neg h2]
      obtain ⟨t3, len, hl, l1, l2⟩ := I.tap
      have tq : tn (f 85 8) = len := by rw [l2]; exact tn_nI (by omega)
      have l120 : len < 120 := by
        rcases Nat.lt_or_ge len 120 with z | z
        · exact z
        · exact absurd (by rw [l2, show len = 120 by omega]; rfl) h2
      have e85 : u2 (u2 f 3 (tn (f 85 8)) a) 2 1 (f 85 8 + 1) 85 = f 85 := by rw [u2_row (by decide), u2_row (by decide)]
      simp only [e85]
      rw [if_neg h2, tq, l2, show nI len + 1 = nI (len + 1) from nI_1 len]
      dsimp only
      refine ⟨rfl, ?_⟩
      refine ⟨I.row.cg (fun k hk => by rw [u2_row (by omega), u2_row (by omega), u2_row (by omega), u2_row (by omega)]), ?_, ⟨?_, len + 1, by omega, ?_, ?_⟩, ?_, I.now.cg (fun k k1 k2 => by rw [u2_row (by omega), u2_row (by omega), u2_row (by omega), u2_row (by omega)]) (fun t _ => by rw [u2_row (by omega), u2_row (by omega), u2_row (by omega), u2_row (by omega)]), I.told.cg ?_ ?_, I.spa.cg (fun k k1 k2 => by rw [u2_row (by omega), u2_row (by omega), u2_row (by omega), u2_row (by omega)]), I.img.cg (fun k k1 k2 => by rw [u2_row (by omega), u2_row (by omega), u2_row (by omega), u2_row (by omega)]) ?_ ?_ (Or.inl ?_), I.act.cg (fun k hk => by rw [u2_row (by omega), u2_row (by omega), u2_row (by omega), u2_row (by omega)]) ?_ ?_ ?_ ?_, I.ask.cg ?_ ?_ ?_ ?_, I.zero.cg ?_ ?_⟩
      · rw [u2_row (by omega), u2_row (by omega), u2_row (by omega), u2_row (by omega), u2_nb (by omega), u2_row (by omega), u2_row (by omega), u2_row (by omega)]; exact I.fin
      · rw [u2_row (by omega), u2_row (by omega), u2_row (by omega), u2_self, u2_row (by omega), u2_self, u2_row (by omega), u2_row (by omega), t3]
      · rw [u2_row (by omega), u2_row (by omega), u2_at]
      · rw [u2_at]
      · rw [u2_row (by omega), u2_row (by omega), u2_nb (by omega), u2_row (by omega), u2_nb (by omega), u2_row (by omega), u2_row (by omega), u2_row (by omega)]; exact I.flt
      all_goals first
        | (rw [u2_row (by omega), u2_row (by omega), u2_row (by omega), u2_row (by omega)]; done)
        | (rw [u2_nb (by omega), u2_row (by omega), u2_row (by omega), u2_row (by omega)]; done)
  · simp only [if_neg h1]
    exact ⟨trivial, I⟩
theorem s_as {kn : Nat} {f : MM} (I : Inv kn f) {n : Nat} {a b : Int32} : (R_as (CR_as f n a b) n a b).1 = (R_as f n a b).1 ∧ Inv kn (R_as (CR_as f n a b) n a b).2 := by
  unfold R_as CR_as
  have eS : ∀ (x : Int32) (k : Nat), k ≠ 0 → u2 f 0 8 x k = f k := fun x k hk => u2_row hk
  by_cases h1 : inR a n = true
  · simp only [if_pos h1]
    by_cases h2 : inR b 6 = true
    · simp only [if_pos h2]
      by_cases h3 : isKd (f 89 (14 + tn a)) b = true
      · simp only [if_pos h3, eS 0 89 (by decide)]
        exact ⟨trivial, I.stat 0⟩
      · simp only [if_neg h3, eS 3 89 (by decide)]
        exact ⟨trivial, I.stat 3⟩
    · simp only [if_neg h2]
      exact ⟨trivial, I⟩
  · simp only [if_neg h1]
    exact ⟨trivial, I⟩
theorem trC_ne : ∀ (l : List Int32) {f : MM} {t k : Nat}, k ≠ 47 → k ≠ 48 → trC f t l k = f k := by
  intro l
  induction l with
  | nil => intro f t k _ _; rfl
  | cons b l ih => intro f t k h1 h2; exact (ih h1 h2).trans (tcF_a h1 h2)
theorem trR_ne : ∀ (l : List Int32) {f : MM} {t k : Nat}, k ≠ 85 → k ≠ 101 → trR f t l k = f k := by
  intro l
  induction l with
  | nil => intro f t k _ _; rfl
  | cons b l ih => intro f t k h1 h2; exact (ih h1 h2).trans (by unfold trF; rw [u2_row h1, u2_row h2])
theorem trR_85 : ∀ (l : List Int32) {f : MM} {t b : Nat}, b ≠ 27 → trR f t l 85 b = f 85 b := by
  intro l
  induction l with
  | nil => intro f t b _; rfl
  | cons x l ih => intro f t b h; exact (ih h).trans (by unfold trF; rw [u2_nb h, u2_row (by decide)])
theorem tr_pair : ∀ (l : List Int32) (c r : MM) (t : Nat), c 47 1 = nI t → r 85 27 = nI t → (∀ i, i < t → c 48 i = r 101 i) → trC c t l 47 1 = nI (t + l.length) ∧ trR r t l 85 27 = nI (t + l.length) ∧ ∀ i, i < t + l.length → trC c t l 48 i = trR r t l 101 i := by
  intro l
  induction l with
  | nil => intro c r t h1 h2 h3; exact ⟨h1, h2, h3⟩
  | cons b l ih =>
    intro c r t h1 h2 h3
    have q := ih (tcF c t b) (trF r t b) (t + 1) tcF_47 trF_27 (fun i hi => by
      unfold tcF trF
      rw [u2_row (show (48 : Nat) ≠ 47 by decide), u2_row (show (101 : Nat) ≠ 85 by decide)]
      by_cases e : i = t
      · rw [e, u2_at, u2_at]
      · rw [u2_nb e, u2_nb e]
        exact h3 i (by omega))
    rw [show t + 1 + l.length = t + (b :: l).length by simp; omega] at q
    exact q
theorem s_ask {kn : Nat} {f : MM} (I : Inv kn f) {n : Nat} (hn : n ≤ 6) {a b : Int32} : (R_ask (CR_ask f n a b) n a b).1 = (R_ask f n a b).1 ∧ Inv kn (R_ask (CR_ask f n a b) n a b).2 := by
  by_cases h1 : inR a n = true
  · by_cases h2 : inR b 2 = true
    · obtain ⟨w, hw, rfl⟩ := inR_of h1
      have eC : CR_ask f n (nI w) b = trC (u2 f 47 1 0) 0 (askV (f 89 (14 + w)) (f 89 (20 + w)) (f 89 (32 + w)) (nI w) b).2 := by unfold CR_ask; rw [if_pos h1, if_pos h2, tn_nI (by omega)]
      have hle := askV_len (k := f 89 (14 + w)) (pa := f 89 (20 + w)) (ti := f 89 (32 + w)) (nu := nI w) (q := b)
      rw [R_ask_V hw hn h2, R_ask_V hw hn h2, eC, trC_ne _ (by decide) (by decide), u2_row (by decide)]
      dsimp only
      refine ⟨rfl, ?_⟩
      generalize (askV (f 89 (14 + w)) (f 89 (20 + w)) (f 89 (32 + w)) (nI w) b).2 = l at hle ⊢
      have tp := tr_pair l (u2 f 47 1 0) (u2 (trC (u2 f 47 1 0) 0 l) 85 27 0) 0 (by rw [u2_at, nI_0]) (by rw [u2_at, nI_0]) (fun i hi => by omega)
      rw [Nat.zero_add] at tp
      have E : ∀ k, k ≠ 47 → k ≠ 48 → k ≠ 85 → k ≠ 101 → trR (u2 (trC (u2 f 47 1 0) 0 l) 85 27 0) 0 l k = f k := fun k h1 h2 h3 h4 => by rw [trR_ne _ h3 h4, u2_row h3, trC_ne _ h1 h2, u2_row h1]
      have E85 : ∀ b, b ≠ 27 → trR (u2 (trC (u2 f 47 1 0) 0 l) 85 27 0) 0 l 85 b = f 85 b := fun b hb => by rw [trR_85 _ hb, u2_nb hb, trC_ne _ (by decide) (by decide), u2_row (by decide)]
      refine ⟨I.row.cg (fun k hk => E k (by omega) (by omega) (by omega) (by omega)), ?_, I.tap.cg (E 3 (by omega) (by omega) (by omega) (by omega)) (E 91 (by omega) (by omega) (by omega) (by omega)) (by rw [E 2 (by omega) (by omega) (by omega) (by omega)]) (E85 8 (by omega)), ?_, I.now.cg (fun k k1 k2 => E k (by omega) (by omega) (by omega) (by omega)) (fun t _ => by rw [E 89 (by omega) (by omega) (by omega) (by omega)]), I.told.cg (by rw [E 4 (by omega) (by omega) (by omega) (by omega)]) (E85 4 (by omega)), I.spa.cg (fun k k1 k2 => E k (by omega) (by omega) (by omega) (by omega)), I.img.cg (fun k k1 k2 => E k (by omega) (by omega) (by omega) (by omega)) (E 99 (by omega) (by omega) (by omega) (by omega)) (E 100 (by omega) (by omega) (by omega) (by omega)) (Or.inl (E85 4 (by omega))), I.act.cg (fun k hk => E k (by omega) (by omega) (by omega) (by omega)) (E 25 (by omega) (by omega) (by omega) (by omega)) (E 93 (by omega) (by omega) (by omega) (by omega)) (E85 18 (by omega)) (E85 4 (by omega)), ?_, I.zero.cg (E 6 (by omega) (by omega) (by omega) (by omega)) (E85 4 (by omega))⟩
      · rw [E 0 (by omega) (by omega) (by omega) (by omega), E85 3 (by omega)]; exact I.fin
      · rw [E 2 (by omega) (by omega) (by omega) (by omega), E85 9 (by omega)]; exact I.flt
      · refine ⟨l.length, by omega, ?_, tp.2.1, fun i hi => ?_⟩
        · rw [trR_ne _ (by decide) (by decide), u2_row (by decide)]; exact tp.1
        · rw [trR_ne _ (by decide) (by decide), u2_row (by decide)]; exact tp.2.2 i hi
    · unfold R_ask CR_ask
      simp only [if_pos h1, if_neg h2]
      exact ⟨trivial, I⟩
  · unfold R_ask CR_ask
    simp only [if_neg h1]
    exact ⟨trivial, I⟩
