/-! WHERE THE CELLS LIE: the class's objects, the reference's rows, the ways that were kept -/
def wayS (o d : Nat) : Nat × Nat × (Nat → Option Nat) := match d with
  | 0 => (7, 0, fun j => if j = 0 then some (o + 1) else if j = 1 then some (o + 2) else none)
  | 1 => (10, 8, fun _ => none)
  | 2 => (3, 0, fun j => if j = 0 then some (o + 3) else none)
  | 3 => (13, 6, fun j => if j < 6 then some (o + 4 + j) else none)
  | _ => (6, 0, fun _ => none)
def ptyS (p d : Nat) : Nat × Nat × (Nat → Option Nat) := match d with
  | 0 => (3, 0, fun j => if j = 0 then some (p + 1) else none)
  | 1 => (13, 6, fun j => if j < 6 then some (p + 2 + j) else none)
  | _ => (6, 0, fun _ => none)
def NN (kn : Nat) : Nat := 102 + 10 * kn
/-- the reference's rows: field, place, length -/
def refT : List (Nat × Nat × Nat) := [(0, 86, 8), (1, 87, 8), (2, 88, 320), (5, 89, 56), (6, 90, 40), (7, 91, 120), (15, 92, 56), (17, 93, 1344), (19, 94, 56), (20, 95, 6), (21, 96, 6), (22, 97, 6), (23, 98, 6), (24, 99, 2), (25, 100, 112), (26, 101, 16)]
def refTg (j : Nat) : Option Nat := match j with
  | 0 => some 86
  | 1 => some 87
  | 2 => some 88
  | 5 => some 89
  | 6 => some 90
  | 7 => some 91
  | 15 => some 92
  | 17 => some 93
  | 19 => some 94
  | 20 => some 95
  | 21 => some 96
  | 22 => some 97
  | 23 => some 98
  | 24 => some 99
  | 25 => some 100
  | 26 => some 101
  | _ => none
def refLen (k : Nat) : Nat := [8, 8, 320, 56, 40, 120, 56, 1344, 56, 6, 6, 6, 6, 2, 112, 16].getD (k - 86) 0
def shF (kn k : Nat) : Nat × Nat × (Nat → Option Nat) :=
  if k = 0 then (8, 0, fun j => [some 1, some 2, some 4, some 14, some 24, some 25, some 27, some 47].getD j none)
  else if k = 1 then (12, 8, fun j => if j < 8 then some (49 + 2 * j) else none)
  else if k = 2 then (4, 0, fun j => if j = 0 then some 3 else none)
  else if k = 3 then (10, 120, fun _ => none)
  else if k < 14 then wayS 4 (k - 4)
  else if k < 24 then wayS 14 (k - 14)
  else if k = 24 then (14, 2, fun j => if j < 2 then some (65 + 10 * j) else none)
  else if k = 25 then (0, 0, fun j => if j = 0 then some 26 else none)
  else if k = 26 then (14, 24, fun j => if j < kn then some (102 + 10 * j) else none)
  else if k = 27 then (2, 0, fun j => [some 28, some 36, some 44, some 45, some 46].getD j none)
  else if k < 36 then ptyS 28 (k - 28)
  else if k < 44 then ptyS 36 (k - 36)
  else if k < 47 then (10, 6, fun _ => none)
  else if k = 47 then (1, 0, fun j => if j = 0 then some 48 else none)
  else if k = 48 then (10, 16, fun _ => none)
  else if k < 65 then (if (k - 49) % 2 = 0 then (5, 0, fun j => if j = 0 then some (k + 1) else none) else (10, 40, fun _ => none))
  else if k < 75 then wayS 65 (k - 65)
  else if k < 85 then wayS 75 (k - 75)
  else if k = 85 then (9, 0, refTg)
  else if k = 99 then (11, 2, fun _ => none)
  else if k < 102 then (10, refLen k, fun _ => none)
  else wayS (102 + 10 * ((k - 102) / 10)) ((k - 102) % 10)
theorem nn_le {kn k : Nat} (h : k < 102) : k < NN kn := by unfold NN; omega
theorem s_0 (kn : Nat) : 0 < NN kn ∧ (shF kn 0).1 = 8 := ⟨nn_le (by decide), rfl⟩
theorem s_1 (kn : Nat) : 1 < NN kn ∧ (shF kn 1).1 = 12 := ⟨nn_le (by decide), rfl⟩
theorem s_2 (kn : Nat) : 2 < NN kn ∧ (shF kn 2).1 = 4 := ⟨nn_le (by decide), rfl⟩
theorem s_3 (kn : Nat) : 3 < NN kn ∧ (shF kn 3).1 = 10 := ⟨nn_le (by decide), rfl⟩
theorem s_24 (kn : Nat) : 24 < NN kn ∧ (shF kn 24).1 = 14 := ⟨nn_le (by decide), rfl⟩
theorem s_25 (kn : Nat) : 25 < NN kn ∧ (shF kn 25).1 = 0 := ⟨nn_le (by decide), rfl⟩
theorem s_26 (kn : Nat) : 26 < NN kn ∧ (shF kn 26).1 = 14 := ⟨nn_le (by decide), rfl⟩
theorem s_27 (kn : Nat) : 27 < NN kn ∧ (shF kn 27).1 = 2 := ⟨nn_le (by decide), rfl⟩
theorem s_44 (kn : Nat) : 44 < NN kn ∧ (shF kn 44).1 = 10 := ⟨nn_le (by decide), rfl⟩
theorem s_45 (kn : Nat) : 45 < NN kn ∧ (shF kn 45).1 = 10 := ⟨nn_le (by decide), rfl⟩
theorem s_46 (kn : Nat) : 46 < NN kn ∧ (shF kn 46).1 = 10 := ⟨nn_le (by decide), rfl⟩
theorem s_47 (kn : Nat) : 47 < NN kn ∧ (shF kn 47).1 = 1 := ⟨nn_le (by decide), rfl⟩
theorem s_48 (kn : Nat) : 48 < NN kn ∧ (shF kn 48).1 = 10 := ⟨nn_le (by decide), rfl⟩
theorem s_85 (kn : Nat) : 85 < NN kn ∧ (shF kn 85).1 = 9 := ⟨nn_le (by decide), rfl⟩
theorem s_86 (kn : Nat) : 86 < NN kn ∧ (shF kn 86).1 = 10 := ⟨nn_le (by decide), rfl⟩
theorem s_87 (kn : Nat) : 87 < NN kn ∧ (shF kn 87).1 = 10 := ⟨nn_le (by decide), rfl⟩
theorem s_88 (kn : Nat) : 88 < NN kn ∧ (shF kn 88).1 = 10 := ⟨nn_le (by decide), rfl⟩
theorem s_89 (kn : Nat) : 89 < NN kn ∧ (shF kn 89).1 = 10 := ⟨nn_le (by decide), rfl⟩
theorem s_90 (kn : Nat) : 90 < NN kn ∧ (shF kn 90).1 = 10 := ⟨nn_le (by decide), rfl⟩
theorem s_91 (kn : Nat) : 91 < NN kn ∧ (shF kn 91).1 = 10 := ⟨nn_le (by decide), rfl⟩
theorem s_92 (kn : Nat) : 92 < NN kn ∧ (shF kn 92).1 = 10 := ⟨nn_le (by decide), rfl⟩
theorem s_93 (kn : Nat) : 93 < NN kn ∧ (shF kn 93).1 = 10 := ⟨nn_le (by decide), rfl⟩
theorem s_94 (kn : Nat) : 94 < NN kn ∧ (shF kn 94).1 = 10 := ⟨nn_le (by decide), rfl⟩
theorem s_95 (kn : Nat) : 95 < NN kn ∧ (shF kn 95).1 = 10 := ⟨nn_le (by decide), rfl⟩
theorem s_96 (kn : Nat) : 96 < NN kn ∧ (shF kn 96).1 = 10 := ⟨nn_le (by decide), rfl⟩
theorem s_97 (kn : Nat) : 97 < NN kn ∧ (shF kn 97).1 = 10 := ⟨nn_le (by decide), rfl⟩
theorem s_98 (kn : Nat) : 98 < NN kn ∧ (shF kn 98).1 = 10 := ⟨nn_le (by decide), rfl⟩
theorem s_99 (kn : Nat) : 99 < NN kn ∧ (shF kn 99).1 = 11 := ⟨nn_le (by decide), rfl⟩
theorem s_100 (kn : Nat) : 100 < NN kn ∧ (shF kn 100).1 = 10 := ⟨nn_le (by decide), rfl⟩
theorem s_101 (kn : Nat) : 101 < NN kn ∧ (shF kn 101).1 = 10 := ⟨nn_le (by decide), rfl⟩
theorem sn_1 (kn : Nat) : (shF kn 1).2.1 = 8 := rfl
theorem sn_3 (kn : Nat) : (shF kn 3).2.1 = 120 := rfl
theorem sn_24 (kn : Nat) : (shF kn 24).2.1 = 2 := rfl
theorem sn_26 (kn : Nat) : (shF kn 26).2.1 = 24 := rfl
theorem sn_44 (kn : Nat) : (shF kn 44).2.1 = 6 := rfl
theorem sn_45 (kn : Nat) : (shF kn 45).2.1 = 6 := rfl
theorem sn_46 (kn : Nat) : (shF kn 46).2.1 = 6 := rfl
theorem sn_48 (kn : Nat) : (shF kn 48).2.1 = 16 := rfl
theorem sn_86 (kn : Nat) : (shF kn 86).2.1 = 8 := rfl
theorem sn_87 (kn : Nat) : (shF kn 87).2.1 = 8 := rfl
theorem sn_88 (kn : Nat) : (shF kn 88).2.1 = 320 := rfl
theorem sn_89 (kn : Nat) : (shF kn 89).2.1 = 56 := rfl
theorem sn_90 (kn : Nat) : (shF kn 90).2.1 = 40 := rfl
theorem sn_91 (kn : Nat) : (shF kn 91).2.1 = 120 := rfl
theorem sn_92 (kn : Nat) : (shF kn 92).2.1 = 56 := rfl
theorem sn_93 (kn : Nat) : (shF kn 93).2.1 = 1344 := rfl
theorem sn_94 (kn : Nat) : (shF kn 94).2.1 = 56 := rfl
theorem sn_95 (kn : Nat) : (shF kn 95).2.1 = 6 := rfl
theorem sn_96 (kn : Nat) : (shF kn 96).2.1 = 6 := rfl
theorem sn_97 (kn : Nat) : (shF kn 97).2.1 = 6 := rfl
theorem sn_98 (kn : Nat) : (shF kn 98).2.1 = 6 := rfl
theorem sn_99 (kn : Nat) : (shF kn 99).2.1 = 2 := rfl
theorem sn_100 (kn : Nat) : (shF kn 100).2.1 = 112 := rfl
theorem sn_101 (kn : Nat) : (shF kn 101).2.1 = 16 := rfl
def isW (kn o : Nat) : Prop := o = 4 ∨ o = 14 ∨ o = 65 ∨ o = 75 ∨ ∃ i, i < kn ∧ o = 102 + 10 * i
theorem isW.now {kn : Nat} : isW kn 4 := Or.inl rfl
theorem isW.spare {kn : Nat} : isW kn 14 := Or.inr (Or.inl rfl)
theorem isW.img {kn i : Nat} (h : i < 2) : isW kn (65 + 10 * i) := by
  have : i = 0 ∨ i = 1 := by omega
  rcases this with rfl | rfl
  · exact Or.inr (Or.inr (Or.inl rfl))
  · exact Or.inr (Or.inr (Or.inr (Or.inl rfl)))
theorem isW.kept {kn i : Nat} (h : i < kn) : isW kn (102 + 10 * i) := Or.inr (Or.inr (Or.inr (Or.inr ⟨i, h, rfl⟩)))
theorem isW.sh {kn o : Nat} (h : isW kn o) {d : Nat} (hd : d < 10) : o + d < NN kn ∧ shF kn (o + d) = wayS o d := by
  have hd' : d = 0 ∨ d = 1 ∨ d = 2 ∨ d = 3 ∨ d = 4 ∨ d = 5 ∨ d = 6 ∨ d = 7 ∨ d = 8 ∨ d = 9 := by omega
  rcases h with rfl | rfl | rfl | rfl | ⟨i, hi, rfl⟩
  · exact ⟨nn_le (by omega), by rcases hd' with rfl | rfl | rfl | rfl | rfl | rfl | rfl | rfl | rfl | rfl <;> rfl⟩
  · exact ⟨nn_le (by omega), by rcases hd' with rfl | rfl | rfl | rfl | rfl | rfl | rfl | rfl | rfl | rfl <;> rfl⟩
  · exact ⟨nn_le (by omega), by rcases hd' with rfl | rfl | rfl | rfl | rfl | rfl | rfl | rfl | rfl | rfl <;> rfl⟩
  · exact ⟨nn_le (by omega), by rcases hd' with rfl | rfl | rfl | rfl | rfl | rfl | rfl | rfl | rfl | rfl <;> rfl⟩
  · refine ⟨by unfold NN; omega, ?_⟩
    have e1 : (102 + 10 * i + d - 102) / 10 = i := by omega
    have e2 : (102 + 10 * i + d - 102) % 10 = d := by omega
    unfold shF
    repeat rw [if_neg (by omega)]
    rw [e1, e2]
def isP (kn p : Nat) : Prop := p = 28 ∨ p = 36 ∨ ∃ o, isW kn o ∧ p = o + 2
theorem isP.way {kn o : Nat} (h : isW kn o) : isP kn (o + 2) := Or.inr (Or.inr ⟨o, h, rfl⟩)
theorem isP.go {kn : Nat} : isP kn 28 := Or.inl rfl
theorem isP.back {kn : Nat} : isP kn 36 := Or.inr (Or.inl rfl)
theorem isP.sh {kn p : Nat} (h : isP kn p) {d : Nat} (hd : d < 8) : p + d < NN kn ∧ shF kn (p + d) = ptyS p d := by
  have hd' : d = 0 ∨ d = 1 ∨ d = 2 ∨ d = 3 ∨ d = 4 ∨ d = 5 ∨ d = 6 ∨ d = 7 := by omega
  rcases h with rfl | rfl | ⟨o, ho, rfl⟩
  · exact ⟨nn_le (by omega), by rcases hd' with rfl | rfl | rfl | rfl | rfl | rfl | rfl | rfl <;> rfl⟩
  · exact ⟨nn_le (by omega), by rcases hd' with rfl | rfl | rfl | rfl | rfl | rfl | rfl | rfl <;> rfl⟩
  · have := ho.sh (d := d + 2) (by omega)
    rw [show o + 2 + d = o + (d + 2) by omega]
    refine ⟨this.1, ?_⟩
    rw [this.2]
    rcases hd' with rfl | rfl | rfl | rfl | rfl | rfl | rfl | rfl <;> rfl
def isK (kn a : Nat) : Prop := ∃ p i, isP kn p ∧ i < 6 ∧ a = p + 2 + i
theorem isK.of {kn p i : Nat} (h : isP kn p) (hi : i < 6) : isK kn (p + 2 + i) := ⟨p, i, h, hi, rfl⟩
theorem w_0 {kn o : Nat} (h : isW kn o) : o < NN kn ∧ (shF kn o).1 = 7 := by
  have := h.sh (d := 0) (by omega)
  rw [Nat.add_zero] at this
  exact ⟨this.1, by rw [this.2]; rfl⟩
theorem w_t0 {kn o : Nat} (h : isW kn o) : (shF kn o).2.2 0 = some (o + 1) := by
  have := (h.sh (d := 0) (by omega)).2
  rw [Nat.add_zero] at this
  rw [this]; rfl
theorem w_t1 {kn o : Nat} (h : isW kn o) : (shF kn o).2.2 1 = some (o + 2) := by
  have := (h.sh (d := 0) (by omega)).2
  rw [Nat.add_zero] at this
  rw [this]; rfl
theorem w_1 {kn o : Nat} (h : isW kn o) : o + 1 < NN kn ∧ (shF kn (o + 1)).1 = 10 := ⟨(h.sh (by omega)).1, by rw [(h.sh (d := 1) (by omega)).2]; rfl⟩
theorem w_1n {kn o : Nat} (h : isW kn o) : (shF kn (o + 1)).2.1 = 8 := by rw [(h.sh (d := 1) (by omega)).2]; rfl
theorem p_0 {kn p : Nat} (h : isP kn p) : p < NN kn ∧ (shF kn p).1 = 3 := by
  have := h.sh (d := 0) (by omega)
  rw [Nat.add_zero] at this
  exact ⟨this.1, by rw [this.2]; rfl⟩
theorem p_t0 {kn p : Nat} (h : isP kn p) : (shF kn p).2.2 0 = some (p + 1) := by
  have := (h.sh (d := 0) (by omega)).2
  rw [Nat.add_zero] at this
  rw [this]; rfl
theorem p_1 {kn p : Nat} (h : isP kn p) : p + 1 < NN kn ∧ (shF kn (p + 1)).1 = 1 + 12 := ⟨(h.sh (by omega)).1, by rw [(h.sh (d := 1) (by omega)).2]; rfl⟩
theorem p_1a {kn p : Nat} (h : isP kn p) : p + 1 < NN kn ∧ 10 ≤ (shF kn (p + 1)).1 ∧ (shF kn (p + 1)).1 < 15 := ⟨(p_1 h).1, by rw [(p_1 h).2]; decide, by rw [(p_1 h).2]; decide⟩
theorem p_1n {kn p : Nat} (h : isP kn p) : (shF kn (p + 1)).2.1 = 6 := by rw [(h.sh (d := 1) (by omega)).2]; rfl
theorem p_1t {kn p i : Nat} (h : isP kn p) (hi : i < 6) : (shF kn (p + 1)).2.2 i = some (p + 2 + i) := by
  rw [(h.sh (d := 1) (by omega)).2]
  show (if i < 6 then some (p + 2 + i) else none) = _
  rw [if_pos hi]
theorem k_0 {kn a : Nat} (h : isK kn a) : a < NN kn ∧ (shF kn a).1 = 6 := by
  obtain ⟨p, i, hp, hi, rfl⟩ := h
  have h2 := hp.sh (d := 2 + i) (by omega)
  rw [show p + (2 + i) = p + 2 + i by omega] at h2
  have hi' : i = 0 ∨ i = 1 ∨ i = 2 ∨ i = 3 ∨ i = 4 ∨ i = 5 := by omega
  refine ⟨h2.1, ?_⟩
  rw [h2.2]
  rcases hi' with rfl | rfl | rfl | rfl | rfl | rfl <;> rfl
theorem x_0 {kn r : Nat} (h : r < 8) : 49 + 2 * r < NN kn ∧ (shF kn (49 + 2 * r)).1 = 5 := by
  have hr : r = 0 ∨ r = 1 ∨ r = 2 ∨ r = 3 ∨ r = 4 ∨ r = 5 ∨ r = 6 ∨ r = 7 := by omega
  refine ⟨nn_le (by omega), ?_⟩
  rcases hr with rfl | rfl | rfl | rfl | rfl | rfl | rfl | rfl <;> rfl
theorem x_t0 {kn r : Nat} (h : r < 8) : (shF kn (49 + 2 * r)).2.2 0 = some (50 + 2 * r) := by
  have hr : r = 0 ∨ r = 1 ∨ r = 2 ∨ r = 3 ∨ r = 4 ∨ r = 5 ∨ r = 6 ∨ r = 7 := by omega
  rcases hr with rfl | rfl | rfl | rfl | rfl | rfl | rfl | rfl <;> rfl
theorem x_1 {kn r : Nat} (h : r < 8) : 50 + 2 * r < NN kn ∧ (shF kn (50 + 2 * r)).1 = 10 := by
  have hr : r = 0 ∨ r = 1 ∨ r = 2 ∨ r = 3 ∨ r = 4 ∨ r = 5 ∨ r = 6 ∨ r = 7 := by omega
  refine ⟨nn_le (by omega), ?_⟩
  rcases hr with rfl | rfl | rfl | rfl | rfl | rfl | rfl | rfl <;> rfl
theorem x_1n {kn r : Nat} (h : r < 8) : (shF kn (50 + 2 * r)).2.1 = 40 := by
  have hr : r = 0 ∨ r = 1 ∨ r = 2 ∨ r = 3 ∨ r = 4 ∨ r = 5 ∨ r = 6 ∨ r = 7 := by omega
  rcases hr with rfl | rfl | rfl | rfl | rfl | rfl | rfl | rfl <;> rfl
theorem ra_t {kn r : Nat} (h : r < 8) : (shF kn 1).2.2 r = some (49 + 2 * r) := by
  show (if r < 8 then some (49 + 2 * r) else none) = _
  rw [if_pos h]
theorem ia_t {kn r : Nat} (h : r < 2) : (shF kn 24).2.2 r = some (65 + 10 * r) := by
  show (if r < 2 then some (65 + 10 * r) else none) = _
  rw [if_pos h]
theorem ka_t {kn r : Nat} (h : r < kn) : (shF kn 26).2.2 r = some (102 + 10 * r) := by
  show (if r < kn then some (102 + 10 * r) else none) = _
  rw [if_pos h]
theorem ka_n {kn r : Nat} (h : kn ≤ r) : (shF kn 26).2.2 r = none := by
  show (if r < kn then some (102 + 10 * r) else none) = _
  rw [if_neg (by omega)]
/-! contracts over this layout, of methods that make nothing -/
abbrev pI (kn : Nat) (post : Int32 → MM → Prop) : PoT := fun r N sh f => ∃ v : Int32, r = some (.int v) ∧ N = NN kn ∧ sh = shF kn ∧ post v f
abbrev pV (kn : Nat) (post : MM → Prop) : PoT := fun r N sh f => r = none ∧ N = NN kn ∧ sh = shF kn ∧ post f
abbrev RI (G : GG) (M : MD) (lv : Nat) (kn : Nat) (av : List Value) (f : MM) (post : Int32 → MM → Prop) : Prop := Ct G M lv 0 0 av (NN kn) (shF kn) f (pI kn post)
abbrev RV (G : GG) (M : MD) (lv : Nat) (kn : Nat) (av : List Value) (f : MM) (post : MM → Prop) : Prop := Ct G M lv 0 0 av (NN kn) (shF kn) f (pV kn post)
abbrev CI (G : GG) (M : MD) (lv : Nat) (kn : Nat) (av : List Value) (f : MM) (v : Int32) (f' : MM) : Prop := RI G M lv kn av f (fun w g => w = v ∧ g = f')
abbrev CV (G : GG) (M : MD) (lv : Nat) (kn : Nat) (av : List Value) (f : MM) (f' : MM) : Prop := RV G M lv kn av f (fun g => g = f')
theorem nI_inc (i : Nat) : nI i + Int32.ofInt 1 = nI (i + 1) := (nI_1 i)
theorem nI_dec (i : Nat) : nI (i + 1) + Int32.ofInt (-1) = nI i := pk_m1 i
section RL
variable {X : XT} {G : GG} {M : MD} {lv mc ms N0 kn : Nat} {cs sl : Nat} {Q : State → Prop} {N : Nat} {sh : SH} {f : MM} {pc : Nat} {ls : List (Option Value)} {st : List Value}
theorem q_iret (C : Cx X G M lv 0 0 N0) {v : Int32} {post : Int32 → MM → Prop} (hd : decode M.2.2.1 pc = .ok (.ireturn, 1)) (hr : M.2.2.2.2 = some .int) (hp : post v f) : Vw X G M.2.2.2.1 0 0 (QQ X G (pI kn post) 0 0) (NN kn) (shF kn) f pc ls [.int v] :=
  r_iret C hd hr ⟨Nat.le_refl _, Nat.le_refl _⟩ ⟨v, rfl, rfl, rfl, hp⟩
theorem q_zret (C : Cx X G M lv 0 0 N0) {v : Int32} {post : Int32 → MM → Prop} (hd : decode M.2.2.1 pc = .ok (.ireturn, 1)) (hr : M.2.2.2.2 = some .boolean) (hv : v = 0 ∨ v = 1) (hp : post v f) : Vw X G M.2.2.2.1 0 0 (QQ X G (pI kn post) 0 0) (NN kn) (shF kn) f pc ls [.int v] :=
  r_zret C hd hr hv ⟨Nat.le_refl _, Nat.le_refl _⟩ ⟨v, rfl, rfl, rfl, hp⟩
theorem q_vret (C : Cx X G M lv 0 0 N0) {post : MM → Prop} (hd : decode M.2.2.1 pc = .ok (.return_, 1)) (hr : M.2.2.2.2 = none) (hp : post f) : Vw X G M.2.2.2.1 0 0 (QQ X G (pV kn post) 0 0) (NN kn) (shF kn) f pc ls [] :=
  r_vret C hd hr ⟨Nat.le_refl _, Nat.le_refl _⟩ ⟨rfl, rfl, rfl, hp⟩
theorem q_iald (C : Cx X G M lv mc ms N0) {k len : Nat} {x : Int32} (n : Nat) (hd : decode M.2.2.1 pc = .ok (.iaload, 1)) (hk : k < N ∧ (sh k).1 = 10) (hn : (sh k).2.1 = len) (hx : x = nI n) (hl : n < len) (hb : len ≤ 2000) (K : Vw X G M.2.2.2.1 cs sl Q N sh f (pc + 1) ls (.int (f k n) :: st)) : Vw X G M.2.2.2.1 cs sl Q N sh f pc ls (.int x :: .ref (G.1 + k) :: st) := by
  subst hx
  refine r_iald C hd hk hn (vp_in_nI hl (by omega)) ?_
  rw [nI_clamp (by omega)]
  exact K
theorem q_iast (C : Cx X G M lv mc ms N0) {k len : Nat} {x v : Int32} (n : Nat) (hd : decode M.2.2.1 pc = .ok (.iastore, 1)) (hk : k < N ∧ (sh k).1 = 10) (hn : (sh k).2.1 = len) (hx : x = nI n) (hl : n < len) (hb : len ≤ 2000) (K : Vw X G M.2.2.2.1 cs sl Q N sh (u2 f k n v) (pc + 1) ls st) : Vw X G M.2.2.2.1 cs sl Q N sh f pc ls (.int v :: .int x :: .ref (G.1 + k) :: st) := by
  subst hx
  refine r_iast C hd hk hn (vp_in_nI hl (by omega)) ?_
  rw [nI_clamp (by omega)]
  exact K
theorem q_aald (C : Cx X G M lv mc ms N0) {k len t b : Nat} {x : Int32} (n : Nat) (hd : decode M.2.2.1 pc = .ok (.aaload, 1)) (hk : k < N ∧ (sh k).1 = b + 12) (hb3 : b < 3) (hn : (sh k).2.1 = len) (hx : x = nI n) (hl : n < len) (hb : len ≤ 2000) (ht : (sh k).2.2 n = some t) (K : Vw X G M.2.2.2.1 cs sl Q N sh f (pc + 1) ls (.ref (G.1 + t) :: st)) : Vw X G M.2.2.2.1 cs sl Q N sh f pc ls (.int x :: .ref (G.1 + k) :: st) := by
  subst hx
  exact r_aald C hd hk hb3 hn (vp_in_nI hl (by omega)) (by rw [nI_clamp (by omega)]; exact ht) K
theorem q_ge (C : Cx X G M lv mc ms N0) {x y : Int32} {off : Int} (a b tgt : Nat) (hx : x = nI a) (hy : y = nI b) (ha : a < 2147483648) (hb : b < 2147483648) (hd : decode M.2.2.1 pc = .ok (.if_icmp .ge off, 3)) (ht : (pc : Int) + off = (tgt : Int)) (Kt : b ≤ a → Vw X G M.2.2.2.1 cs sl Q N sh f tgt ls st) (Kf : a < b → Vw X G M.2.2.2.1 cs sl Q N sh f (pc + 3) ls st) : Vw X G M.2.2.2.1 cs sl Q N sh f pc ls (.int y :: .int x :: st) := by
  subst hx; subst hy
  exact r_icmp_ge C tgt hd ht (fun h => Kt ((nI_leI hb ha).mp h)) (fun h => Kf (by rcases Nat.lt_or_ge a b with q | q; exact q; exact absurd ((nI_leI hb ha).mpr q) h))
theorem q_lt (C : Cx X G M lv mc ms N0) {x y : Int32} {off : Int} (a b tgt : Nat) (hx : x = nI a) (hy : y = nI b) (ha : a < 2147483648) (hb : b < 2147483648) (hd : decode M.2.2.1 pc = .ok (.if_icmp .lt off, 3)) (ht : (pc : Int) + off = (tgt : Int)) (Kt : a < b → Vw X G M.2.2.2.1 cs sl Q N sh f tgt ls st) (Kf : b ≤ a → Vw X G M.2.2.2.1 cs sl Q N sh f (pc + 3) ls st) : Vw X G M.2.2.2.1 cs sl Q N sh f pc ls (.int y :: .int x :: st) := by
  subst hx; subst hy
  exact r_icmp_lt C tgt hd ht (fun h => Kt ((nI_ltI ha hb).mp h)) (fun h => Kf (by rcases Nat.lt_or_ge a b with q | q; exact absurd ((nI_ltI ha hb).mpr q) h; exact q))
theorem q_gt (C : Cx X G M lv mc ms N0) {x y : Int32} {off : Int} (a b tgt : Nat) (hx : x = nI a) (hy : y = nI b) (ha : a < 2147483648) (hb : b < 2147483648) (hd : decode M.2.2.1 pc = .ok (.if_icmp .gt off, 3)) (ht : (pc : Int) + off = (tgt : Int)) (Kt : b < a → Vw X G M.2.2.2.1 cs sl Q N sh f tgt ls st) (Kf : a ≤ b → Vw X G M.2.2.2.1 cs sl Q N sh f (pc + 3) ls st) : Vw X G M.2.2.2.1 cs sl Q N sh f pc ls (.int y :: .int x :: st) := by
  subst hx; subst hy
  exact r_icmp_gt C tgt hd ht (fun h => Kt ((nI_ltI hb ha).mp h)) (fun h => Kf (by rcases Nat.lt_or_ge b a with q | q; exact absurd ((nI_ltI hb ha).mpr q) h; exact q))
theorem q_le (C : Cx X G M lv mc ms N0) {x y : Int32} {off : Int} (a b tgt : Nat) (hx : x = nI a) (hy : y = nI b) (ha : a < 2147483648) (hb : b < 2147483648) (hd : decode M.2.2.1 pc = .ok (.if_icmp .le off, 3)) (ht : (pc : Int) + off = (tgt : Int)) (Kt : a ≤ b → Vw X G M.2.2.2.1 cs sl Q N sh f tgt ls st) (Kf : b < a → Vw X G M.2.2.2.1 cs sl Q N sh f (pc + 3) ls st) : Vw X G M.2.2.2.1 cs sl Q N sh f pc ls (.int y :: .int x :: st) := by
  subst hx; subst hy
  exact r_icmp_le C tgt hd ht (fun h => Kt ((nI_leI ha hb).mp h)) (fun h => Kf (by rcases Nat.lt_or_ge b a with q | q; exact q; exact absurd ((nI_leI ha hb).mpr q) h))
theorem q_eq (C : Cx X G M lv mc ms N0) {x y : Int32} {off : Int} (a b tgt : Nat) (hx : x = nI a) (hy : y = nI b) (ha : a < 2147483648) (hb : b < 2147483648) (hd : decode M.2.2.1 pc = .ok (.if_icmp .eq off, 3)) (ht : (pc : Int) + off = (tgt : Int)) (Kt : a = b → Vw X G M.2.2.2.1 cs sl Q N sh f tgt ls st) (Kf : ¬ a = b → Vw X G M.2.2.2.1 cs sl Q N sh f (pc + 3) ls st) : Vw X G M.2.2.2.1 cs sl Q N sh f pc ls (.int y :: .int x :: st) := by
  subst hx; subst hy
  exact r_icmp_eq C tgt hd ht (fun h => Kt ((nI_eq ha hb).mp h)) (fun h => Kf (fun q => h ((nI_eq ha hb).mpr q)))
theorem q_ne (C : Cx X G M lv mc ms N0) {x y : Int32} {off : Int} (a b tgt : Nat) (hx : x = nI a) (hy : y = nI b) (ha : a < 2147483648) (hb : b < 2147483648) (hd : decode M.2.2.1 pc = .ok (.if_icmp .ne off, 3)) (ht : (pc : Int) + off = (tgt : Int)) (Kt : ¬ a = b → Vw X G M.2.2.2.1 cs sl Q N sh f tgt ls st) (Kf : a = b → Vw X G M.2.2.2.1 cs sl Q N sh f (pc + 3) ls st) : Vw X G M.2.2.2.1 cs sl Q N sh f pc ls (.int y :: .int x :: st) := by
  subst hx; subst hy
  exact r_icmp_ne C tgt hd ht (fun h => Kt (fun q => h ((nI_eq ha hb).mpr q))) (fun h => Kf ((nI_eq ha hb).mp h))
end RL
section RQ
variable {X : XT} {G : GG} {M : MD} {lv mc ms N0 kn : Nat} {cs sl : Nat} {Q : State → Prop} {f : MM} {pc : Nat} {ls : List (Option Value)} {st : List Value}
theorem q_vI (C : Cx X G M lv mc ms N0) {M2 : MD} {lv2 n ci k idx : Nat} {As rest : List Value} {post : Int32 → MM → Prop} (hl : KlV M.1 idx M2 n ci) (hd : decode M.2.2.1 pc = .ok (.invokevirtual idx, 3)) (hM : RI G M2 lv2 kn (.ref (G.1 + k) :: As) f post) (hk : k < NN kn ∧ (shF kn k).1 = ci) (hst : st = As.reverse ++ .ref (G.1 + k) :: rest) (hn : As.length = n) (hr : (rest.map fun v => v.category).sum ≤ 8) (hlv : lv2 + 1 ≤ lv) (hc : cs ≤ mc ∧ sl ≤ ms) (K : ∀ (v : Int32) (f' : MM), post v f' → Vw X G M.2.2.2.1 cs sl Q (NN kn) (shF kn) f' (pc + 3) ls (.int v :: rest)) : Vw X G M.2.2.2.1 cs sl Q (NN kn) (shF kn) f pc ls st :=
  r_callv C hl hd hM hk hst hn hr hlv hc (fun r N' sh' f' h => by obtain ⟨v, rfl, rfl, rfl, hp⟩ := h; exact K v f' hp)
theorem q_vV (C : Cx X G M lv mc ms N0) {M2 : MD} {lv2 n ci k idx : Nat} {As rest : List Value} {post : MM → Prop} (hl : KlV M.1 idx M2 n ci) (hd : decode M.2.2.1 pc = .ok (.invokevirtual idx, 3)) (hM : RV G M2 lv2 kn (.ref (G.1 + k) :: As) f post) (hk : k < NN kn ∧ (shF kn k).1 = ci) (hst : st = As.reverse ++ .ref (G.1 + k) :: rest) (hn : As.length = n) (hr : (rest.map fun v => v.category).sum ≤ 8) (hlv : lv2 + 1 ≤ lv) (hc : cs ≤ mc ∧ sl ≤ ms) (K : ∀ (f' : MM), post f' → Vw X G M.2.2.2.1 cs sl Q (NN kn) (shF kn) f' (pc + 3) ls rest) : Vw X G M.2.2.2.1 cs sl Q (NN kn) (shF kn) f pc ls st :=
  r_callv C hl hd hM hk hst hn hr hlv hc (fun r N' sh' f' h => by obtain ⟨rfl, rfl, rfl, hp⟩ := h; exact K f' hp)
theorem q_vIf (C : Cx X G M lv mc ms N0) {M2 : MD} {lv2 n ci k idx : Nat} {As rest : List Value} {v : Int32} {f' : MM} (hl : KlV M.1 idx M2 n ci) (hd : decode M.2.2.1 pc = .ok (.invokevirtual idx, 3)) (hM : CI G M2 lv2 kn (.ref (G.1 + k) :: As) f v f') (hk : k < NN kn ∧ (shF kn k).1 = ci) (hst : st = As.reverse ++ .ref (G.1 + k) :: rest) (hn : As.length = n) (hr : (rest.map fun v => v.category).sum ≤ 8) (hlv : lv2 + 1 ≤ lv) (hc : cs ≤ mc ∧ sl ≤ ms) (K : Vw X G M.2.2.2.1 cs sl Q (NN kn) (shF kn) f' (pc + 3) ls (.int v :: rest)) : Vw X G M.2.2.2.1 cs sl Q (NN kn) (shF kn) f pc ls st :=
  q_vI C hl hd hM hk hst hn hr hlv hc (fun w g h => by obtain ⟨rfl, rfl⟩ := h; exact K)
theorem q_vVf (C : Cx X G M lv mc ms N0) {M2 : MD} {lv2 n ci k idx : Nat} {As rest : List Value} {f' : MM} (hl : KlV M.1 idx M2 n ci) (hd : decode M.2.2.1 pc = .ok (.invokevirtual idx, 3)) (hM : CV G M2 lv2 kn (.ref (G.1 + k) :: As) f f') (hk : k < NN kn ∧ (shF kn k).1 = ci) (hst : st = As.reverse ++ .ref (G.1 + k) :: rest) (hn : As.length = n) (hr : (rest.map fun v => v.category).sum ≤ 8) (hlv : lv2 + 1 ≤ lv) (hc : cs ≤ mc ∧ sl ≤ ms) (K : Vw X G M.2.2.2.1 cs sl Q (NN kn) (shF kn) f' (pc + 3) ls rest) : Vw X G M.2.2.2.1 cs sl Q (NN kn) (shF kn) f pc ls st :=
  q_vV C hl hd hM hk hst hn hr hlv hc (fun g h => by cases h; exact K)
theorem q_sI (C : Cx X G M lv mc ms N0) {M2 : MD} {lv2 n idx : Nat} {As rest : List Value} {post : Int32 → MM → Prop} (hl : KlS M.1 idx M2 n) (hd : decode M.2.2.1 pc = .ok (.invokestatic idx, 3)) (hM : RI G M2 lv2 kn As f post) (hst : st = As.reverse ++ rest) (hn : As.length = n) (hr : (rest.map fun v => v.category).sum ≤ 8) (hlv : lv2 + 1 ≤ lv) (hc : cs ≤ mc ∧ sl ≤ ms) (K : ∀ (v : Int32) (f' : MM), post v f' → Vw X G M.2.2.2.1 cs sl Q (NN kn) (shF kn) f' (pc + 3) ls (.int v :: rest)) : Vw X G M.2.2.2.1 cs sl Q (NN kn) (shF kn) f pc ls st :=
  r_calls C hl hd hM hst hn hr hlv hc (fun r N' sh' f' h => by obtain ⟨v, rfl, rfl, rfl, hp⟩ := h; exact K v f' hp)
theorem q_sV (C : Cx X G M lv mc ms N0) {M2 : MD} {lv2 n idx : Nat} {As rest : List Value} {post : MM → Prop} (hl : KlS M.1 idx M2 n) (hd : decode M.2.2.1 pc = .ok (.invokestatic idx, 3)) (hM : RV G M2 lv2 kn As f post) (hst : st = As.reverse ++ rest) (hn : As.length = n) (hr : (rest.map fun v => v.category).sum ≤ 8) (hlv : lv2 + 1 ≤ lv) (hc : cs ≤ mc ∧ sl ≤ ms) (K : ∀ (f' : MM), post f' → Vw X G M.2.2.2.1 cs sl Q (NN kn) (shF kn) f' (pc + 3) ls rest) : Vw X G M.2.2.2.1 cs sl Q (NN kn) (shF kn) f pc ls st :=
  r_calls C hl hd hM hst hn hr hlv hc (fun r N' sh' f' h => by obtain ⟨rfl, rfl, rfl, hp⟩ := h; exact K f' hp)
theorem q_sIf (C : Cx X G M lv mc ms N0) {M2 : MD} {lv2 n idx : Nat} {As rest : List Value} {v : Int32} {f' : MM} (hl : KlS M.1 idx M2 n) (hd : decode M.2.2.1 pc = .ok (.invokestatic idx, 3)) (hM : CI G M2 lv2 kn As f v f') (hst : st = As.reverse ++ rest) (hn : As.length = n) (hr : (rest.map fun v => v.category).sum ≤ 8) (hlv : lv2 + 1 ≤ lv) (hc : cs ≤ mc ∧ sl ≤ ms) (K : Vw X G M.2.2.2.1 cs sl Q (NN kn) (shF kn) f' (pc + 3) ls (.int v :: rest)) : Vw X G M.2.2.2.1 cs sl Q (NN kn) (shF kn) f pc ls st :=
  q_sI C hl hd hM hst hn hr hlv hc (fun w g h => by obtain ⟨rfl, rfl⟩ := h; exact K)
theorem q_sVf (C : Cx X G M lv mc ms N0) {M2 : MD} {lv2 n idx : Nat} {As rest : List Value} {f' : MM} (hl : KlS M.1 idx M2 n) (hd : decode M.2.2.1 pc = .ok (.invokestatic idx, 3)) (hM : CV G M2 lv2 kn As f f') (hst : st = As.reverse ++ rest) (hn : As.length = n) (hr : (rest.map fun v => v.category).sum ≤ 8) (hlv : lv2 + 1 ≤ lv) (hc : cs ≤ mc ∧ sl ≤ ms) (K : Vw X G M.2.2.2.1 cs sl Q (NN kn) (shF kn) f' (pc + 3) ls rest) : Vw X G M.2.2.2.1 cs sl Q (NN kn) (shF kn) f pc ls st :=
  q_sV C hl hd hM hst hn hr hlv hc (fun g h => by cases h; exact K)
end RQ
