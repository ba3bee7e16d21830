/-! ROWS of the heap -/
def Fl (own : String) (idx ci j : Nat) : Prop := ∃ (C : String) (T : u_T), vwCl[ci]? = some (C, T, nfl ci) ∧ j < nfl ci ∧ (T j).1 = C ∧ (∀ w ∈ u_ws C T (nfl ci), w ∈ gw) ∧ (Cond.fieldLink own idx C (T j).2.1 (T j).2.2.1 ∈ gw ∨ ∃ host, Cond.fieldLinkNest own idx C (T j).2.1 (T j).2.2.1 host ∈ nw)
/-- a field's type, and whether it is final -/
def Ft (ci j : Nat) (ty : FieldType) (fin : Bool) : Prop := ∃ (C : String) (T : u_T) (ty0 : Nat → FieldType), vwCl[ci]? = some (C, T, nfl ci) ∧ (∀ k, k < nfl ci → parseFieldDescriptor (T k).2.2.1 = some (ty0 k)) ∧ (∀ a, a < nfl ci → ∀ b, b < nfl ci → a ≠ b → (T a).2.1 ≠ (T b).2.1) ∧ ty0 j = ty ∧ (T j).2.2.2 = fin
theorem cl_lt {ci : Nat} {q : vw_C} (h : vwCl[ci]? = some q) : ci < 10 := (List.getElem?_eq_some_iff.mp h).1
theorem cel_o {G : GG} {q : Nat × Nat × (Nat → Option Nat)} {fk : Nat → Int32} {ci : Nat} (h : q.1 = ci) (hl : ci < 10) : cel G q fk = .inr (ci, fso G ci q.2.2 fk) := by
  subst h; simp [cel, hl]
theorem cel_i {G : GG} {q : Nat × Nat × (Nat → Option Nat)} {fk : Nat → Int32} (h : q.1 = 10) : cel G q fk = .inl (G.2.2.1 0, q.2.1, .inl fk) := by
  simp [cel, h]
theorem cel_z {G : GG} {q : Nat × Nat × (Nat → Option Nat)} {fk : Nat → Int32} (h : q.1 = 11) : cel G q fk = .inl (G.2.2.1 1, q.2.1, .inl fk) := by
  simp [cel, h]
theorem cel_r {G : GG} {q : Nat × Nat × (Nat → Option Nat)} {fk : Nat → Int32} {b : Nat} (h : q.1 = b + 12) : cel G q fk = .inl (G.2.2.1 (b + 2), q.2.1, .inr (.inr (.inr (.inr (fun j => (q.2.2 j).map (fun t => G.1 + t)))))) := by
  have h1 : ¬ b + 12 < 10 := by omega
  have h2 : ¬ b + 12 < 12 := by omega
  simp [cel, h, h1, h2]
theorem fso_len {G : GG} {ci : Nat} {tg : Nat → Option Nat} {fk : Nat → Int32} : (fso G ci tg fk).length = nfl ci := by simp [fso]
theorem fso_at {G : GG} {ci j : Nat} {tg : Nat → Option Nat} {fk : Nat → Int32} (h : j < nfl ci) : (fso G ci tg fk)[j]? = some (if rft ci j = true then va_rf ((tg j).map (fun t => G.1 + t)) else .int (fk j)) := by
  simp [fso, h]
theorem fso_seti {G : GG} {ci j : Nat} {tg : Nat → Option Nat} {fk : Nat → Int32} {v : Int32} (hr : rft ci j = false) : (fso G ci tg fk).set j (.int v) = fso G ci tg (fun b => if b = j then v else fk b) := by
  apply List.ext_getElem?
  intro i
  by_cases hi : i < nfl ci
  · rw [fso_at hi]
    by_cases hj : j = i
    · subst hj
      rw [List.getElem?_set_self (by rw [fso_len]; exact hi)]
      simp [hr]
    · rw [List.getElem?_set_ne hj, fso_at hi]
      simp [Ne.symm hj]
  · rw [List.getElem?_eq_none (by rw [List.length_set, fso_len]; omega), List.getElem?_eq_none (by rw [fso_len]; omega)]
theorem fso_setr {G : GG} {ci j t : Nat} {tg : Nat → Option Nat} {fk : Nat → Int32} (hr : rft ci j = true) : (fso G ci tg fk).set j (.ref (G.1 + t)) = fso G ci (va_up tg j (some t)) fk := by
  apply List.ext_getElem?
  intro i
  by_cases hi : i < nfl ci
  · rw [fso_at hi]
    by_cases hj : j = i
    · subst hj
      rw [List.getElem?_set_self (by rw [fso_len]; exact hi)]
      simp [hr, va_up, va_rf]
    · rw [List.getElem?_set_ne hj, fso_at hi]
      simp [va_up, Ne.symm hj]
  · rw [List.getElem?_eq_none (by rw [List.length_set, fso_len]; omega), List.getElem?_eq_none (by rw [fso_len]; omega)]
section RH1
variable {X : XT} {G : GG} {M : MD} {lv mc ms N0 : Nat} {cs sl : Nat} {Q : State → Prop} {N : Nat} {sh : SH} {f : MM} {pc : Nat} {ls : List (Option Value)} {st : List Value}
theorem r_getV (C : Cx X G M lv mc ms N0) {idx ci j k : Nat} {v : Value} (hf : Fl M.1 idx ci j) (hd : decode M.2.2.1 pc = .ok (.getfield idx, 3)) (hk : k < N) (hc : (sh k).1 = ci) (hv : (if rft ci j = true then va_rf (((sh k).2.2 j).map (fun t => G.1 + t)) else .int (f k j)) = v) (K : Vw X G M.2.2.2.1 cs sl Q N sh f (pc + 3) ls (v :: st)) : Vw X G M.2.2.2.1 cs sl Q N sh f pc ls (.ref (G.1 + k) :: st) := by
  intro H locs arr hP hz hS hl
  obtain ⟨hx, hb, -, hown, hts, ⟨hK, hN⟩, -⟩ := C
  obtain ⟨Cn, T, h1, h2, h3, h4, h5⟩ := hf
  have he : (wl G N sh f)[k]? = some (G.1 + k, .inr (ci, fso G ci (sh k).2.2 (f k))) := by rw [wl_at hk, cel_o hc (cl_lt h1)]
  have hfs : (fso G ci (sh k).2.2 (f k))[j]? = some v := by rw [fso_at h2, hv]
  rcases h5 with h5 | ⟨host, h5⟩
  · exact va_get (D := G.2.1) (ci := ci) (v := v) (C := Cn) (T := T) (N := nfl ci) hx hb hts h4 hown hK hP k he h1 j h2 (hts _ h5) (by rw [h3]; exact fun _ h => h) hfs hd (K H locs arr hP hz hS hl)
  · exact va_getN (D := G.2.1) (ci := ci) (v := v) (C := Cn) (T := T) (N := nfl ci) hx hb hts h4 hown hK hP k he h1 j h2 (va_Nw.use rfl (hN _ h5)) (by rw [h3]; exact fun _ h => h) hfs hd (K H locs arr hP hz hS hl)
theorem r_get (C : Cx X G M lv mc ms N0) {idx ci j k : Nat} (hf : Fl M.1 idx ci j) (hd : decode M.2.2.1 pc = .ok (.getfield idx, 3)) (hk : k < N ∧ (sh k).1 = ci) (hr : rft ci j = false) (K : Vw X G M.2.2.2.1 cs sl Q N sh f (pc + 3) ls (.int (f k j) :: st)) : Vw X G M.2.2.2.1 cs sl Q N sh f pc ls (.ref (G.1 + k) :: st) :=
  r_getV C hf hd hk.1 hk.2 (by simp [hr]) K
theorem r_getr (C : Cx X G M lv mc ms N0) {idx ci j k t : Nat} (hf : Fl M.1 idx ci j) (hd : decode M.2.2.1 pc = .ok (.getfield idx, 3)) (hk : k < N ∧ (sh k).1 = ci) (hr : rft ci j = true) (ht : (sh k).2.2 j = some t) (K : Vw X G M.2.2.2.1 cs sl Q N sh f (pc + 3) ls (.ref (G.1 + t) :: st)) : Vw X G M.2.2.2.1 cs sl Q N sh f pc ls (.ref (G.1 + k) :: st) :=
  r_getV C hf hd hk.1 hk.2 (by simp [hr, ht, va_rf]) K
theorem r_putV (C : Cx X G M lv mc ms N0) {idx ci j k : Nat} {v : Value} {ty : FieldType} {q : Nat × Nat × (Nat → Option Nat)} {fk : Nat → Int32} (hf : Fl M.1 idx ci j) (hft : Ft ci j ty false) (hd : decode M.2.2.1 pc = .ok (.putfield idx, 3)) (hk : k < N) (hc : (sh k).1 = ci) (hq : q.1 = ci) (hn : narrow ty v = v) (hfit : fits ty v = true) (hset : (fso G ci (sh k).2.2 (f k)).set j v = fso G ci q.2.2 fk)
    (K : Vw X G M.2.2.2.1 cs sl Q N (va_up sh k q) (va_up f k fk) (pc + 3) ls st) : Vw X G M.2.2.2.1 cs sl Q N sh f pc ls (v :: .ref (G.1 + k) :: st) := by
  intro H locs arr hP hz hS hl
  obtain ⟨hx, hb, -, hown, hts, ⟨hK, hNw⟩, -⟩ := C
  obtain ⟨Cn, T, h1, h2, h3, h4, h5⟩ := hf
  obtain ⟨Cn', T', ty0, g1, hty, hnm, gt, gf⟩ := hft
  have e0 := Option.some.inj (g1.symm.trans h1)
  simp only [Prod.mk.injEq] at e0
  obtain ⟨rfl, rfl, -⟩ := e0
  have he : (wl G N sh f)[k]? = some (G.1 + k, .inr (ci, fso G ci (sh k).2.2 (f k))) := by rw [wl_at hk, cel_o hc (cl_lt h1)]
  have hD : va_D (fun q => G.1 ≤ q) (wl G N sh f) := wl_D
  have hap := va_apart (own := M.1) hts h4 ty0 hty hnm hK h1
  obtain ⟨r, r1, cell, q1, q2, q3, q4⟩ := hP k _ he
  have hr : r = (Cn', T', nfl ci) := Option.some.inj (r1.symm.trans h1)
  subst hr
  obtain ⟨hSl, hfc, kC, hkC, hkind⟩ := hK.1 ci _ h1
  obtain ⟨cf, kf, fi, fd, hi, hsl⟩ := hSl j h2
  have hlay := hts _ (h4 _ (u_in_lay h2))
  unfold u_lay at hlay
  rw [if_neg (by rw [gf]; decide)] at hlay
  have hst := (u_facts hfc hkC (u_lays hts h4 h2) hi).1
  have h6 := u_store hfc hkC hkind hlay hi (by rw [hty j h2, gt]) hn hfit
  have fin : ∀ H' : Heap, H'[G.1 + k]? = some (cell.setSlot fd.slot v) → H'.size = H.size → (∀ q, q ≠ G.1 + k → H'[q]? = H[q]?) → W X.1 X.2.1 X.2.2.1 X.2.2.2.1 X.2.2.2.2.1 X.2.2.2.2.2.1 X.2.2.2.2.2.2.1 X.2.2.2.2.2.2.2.1 X.2.2.2.2.2.2.2.2.1 X.2.2.2.2.2.2.2.2.2 H' (locs ++ [⟨G.1 + k, fd.slot⟩]) cs sl Q (F0 X.2.2.2.2.2.1 (pc + 3) arr st) := by
    intro H' e1 e2 e3
    refine K H' _ arr ?_ (e2.trans hz) (hS.put e2 e3 (Nat.le_add_right _ _)) hl
    rw [hsl] at e1
    have hP2 := hP.set hD he (e := .inr (ci, (fso G ci (sh k).2.2 (f k)).set j v)) ⟨_, h1, t_OB.to (V := updV (vp_V (fso G ci (sh k).2.2 (f k))) j v) ⟨_, e1, q2, q3, t_set q4 hap h2 v⟩ (fun i _ => vp_updV_set (by rw [fso_len]; exact h2) v i)⟩ e3
    rw [hset, ← cel_o (G := G) (q := q) (fk := fk) hq (cl_lt h1), wl_set] at hP2
    exact hP2
  rcases h5 with h5 | ⟨host, h5⟩
  · exact W.putK hx hb (f := fd) ⟨hown, hts _ h5, ⟨_, _, _, by rw [h3] at hi; exact hi⟩, hst⟩ (by rw [q2]; exact h6) q1 q3 (by rw [hsl]; exact k2_hasslot (q4 j h2)) rfl rfl hd fin
  · exact va_WputK hx hb (f := fd) hown (va_Nw.use rfl (hNw _ h5)) (by rw [h3] at hi; exact hi) hst (by rw [q2]; exact h6) q1 q3 (by rw [hsl]; exact k2_hasslot (q4 j h2)) rfl rfl hd fin
theorem up_same {sh : SH} {k : Nat} : va_up sh k (sh k) = sh := by
  funext i
  by_cases h : i = k
  · subst h; simp [va_up]
  · simp [va_up, h]
theorem r_put (C : Cx X G M lv mc ms N0) {idx ci j k : Nat} {v : Int32} (hf : Fl M.1 idx ci j) (hft : Ft ci j .int false) (hd : decode M.2.2.1 pc = .ok (.putfield idx, 3)) (hk : k < N ∧ (sh k).1 = ci) (hr : rft ci j = false) (K : Vw X G M.2.2.2.1 cs sl Q N sh (u2 f k j v) (pc + 3) ls st) : Vw X G M.2.2.2.1 cs sl Q N sh f pc ls (.int v :: .ref (G.1 + k) :: st) := by
  refine r_putV C hf hft hd hk.1 hk.2 (q := sh k) hk.2 rfl rfl (fso_seti hr) ?_
  rw [up_same, va_up_u2]
  exact K
theorem r_putz (C : Cx X G M lv mc ms N0) {idx ci j k : Nat} {v : Int32} (hf : Fl M.1 idx ci j) (hft : Ft ci j .boolean false) (hd : decode M.2.2.1 pc = .ok (.putfield idx, 3)) (hk : k < N ∧ (sh k).1 = ci) (hr : rft ci j = false) (hv : v = 0 ∨ v = 1) (K : Vw X G M.2.2.2.1 cs sl Q N sh (u2 f k j v) (pc + 3) ls st) : Vw X G M.2.2.2.1 cs sl Q N sh f pc ls (.int v :: .ref (G.1 + k) :: st) := by
  refine r_putV C hf hft hd hk.1 hk.2 (q := sh k) hk.2 (by rcases hv with rfl | rfl <;> decide +kernel) (by rcases hv with rfl | rfl <;> decide +kernel) (fso_seti hr) ?_
  rw [up_same, va_up_u2]
  exact K
theorem tys_i (G : GG) : (tysG G)[0]? = some (G.2.2.1 0, .int) := rfl
theorem tys_z (G : GG) : (tysG G)[1]? = some (G.2.2.1 1, .boolean) := rfl
theorem r_iald (C : Cx X G M lv mc ms N0) {k n : Nat} {i : Int32} (hd : decode M.2.2.1 pc = .ok (.iaload, 1)) (hk : k < N ∧ (sh k).1 = 10) (hn : (sh k).2.1 = n) (hin : vp_in i n) (K : Vw X G M.2.2.2.1 cs sl Q N sh f (pc + 1) ls (.int (f k i.toNatClampNeg) :: st)) : Vw X G M.2.2.2.1 cs sl Q N sh f pc ls (.int i :: .ref (G.1 + k) :: st) := by
  intro H locs arr hP hz hS hl
  exact va_iald C.1 C.2.1 C.2.2.2.2.2.1.1 hP k 0 (by rw [wl_at hk.1, cel_i hk.2, hn]) (tys_i G) hin hd (K H locs arr hP hz hS hl)
theorem r_zald (C : Cx X G M lv mc ms N0) {k n : Nat} {i : Int32} (hd : decode M.2.2.1 pc = .ok (.baload, 1)) (hk : k < N ∧ (sh k).1 = 11) (hn : (sh k).2.1 = n) (hin : vp_in i n) (K : Vw X G M.2.2.2.1 cs sl Q N sh f (pc + 1) ls (.int (f k i.toNatClampNeg) :: st)) : Vw X G M.2.2.2.1 cs sl Q N sh f pc ls (.int i :: .ref (G.1 + k) :: st) := by
  intro H locs arr hP hz hS hl
  exact va_zald C.1 C.2.1 C.2.2.2.2.2.1.1 hP k 1 (by rw [wl_at hk.1, cel_z hk.2, hn]) (tys_z G) hin hd (K H locs arr hP hz hS hl)
theorem r_alen (C : Cx X G M lv mc ms N0) {k n : Nat} (v : Int32) (hd : decode M.2.2.1 pc = .ok (.arraylength, 1)) (hk : k < N ∧ 10 ≤ (sh k).1 ∧ (sh k).1 < 15) (hn : (sh k).2.1 = n) (hv : Int32.ofNat n = v) (K : Vw X G M.2.2.2.1 cs sl Q N sh f (pc + 1) ls (.int v :: st)) : Vw X G M.2.2.2.1 cs sl Q N sh f pc ls (.ref (G.1 + k) :: st) := by
  intro H locs arr hP hz hS hl
  subst hn
  obtain ⟨h1, h2, h3⟩ := hk
  have hw := wl_at (G := G) (f := f) (sh := sh) h1
  rcases Nat.lt_or_ge (sh k).1 11 with h | h
  · have e : (sh k).1 = 10 := by omega
    rw [cel_i e] at hw
    exact va_alen C.1 C.2.1 C.2.2.2.2.2.1.1 hP k 0 hw (tys_i G) hv hd (K H locs arr hP hz hS hl)
  · rcases Nat.lt_or_ge (sh k).1 12 with h | h
    · have e : (sh k).1 = 11 := by omega
      rw [cel_z e] at hw
      exact va_alen C.1 C.2.1 C.2.2.2.2.2.1.1 hP k 1 hw (tys_z G) hv hd (K H locs arr hP hz hS hl)
    · obtain ⟨b, hb⟩ : ∃ b, (sh k).1 = b + 12 := ⟨(sh k).1 - 12, by omega⟩
      rw [cel_r hb] at hw
      have hb3 : b < 3 := by omega
      have ht : ∃ ty, (tysG G)[b + 2]? = some (G.2.2.1 (b + 2), ty) := by
        match b, hb3 with
        | 0, _ => exact ⟨_, rfl⟩
        | 1, _ => exact ⟨_, rfl⟩
        | 2, _ => exact ⟨_, rfl⟩
      obtain ⟨ty, ht⟩ := ht
      exact va_alen C.1 C.2.1 C.2.2.2.2.2.1.1 hP k (b + 2) hw ht hv hd (K H locs arr hP hz hS hl)
theorem r_iast (C : Cx X G M lv mc ms N0) {k n : Nat} {i x : Int32} (hd : decode M.2.2.1 pc = .ok (.iastore, 1)) (hk : k < N ∧ (sh k).1 = 10) (hn : (sh k).2.1 = n) (hin : vp_in i n) (K : Vw X G M.2.2.2.1 cs sl Q N sh (u2 f k i.toNatClampNeg x) (pc + 1) ls st) : Vw X G M.2.2.2.1 cs sl Q N sh f pc ls (.int x :: .int i :: .ref (G.1 + k) :: st) := by
  intro H locs arr hP hz hS hl
  subst hn
  have ha : (wl G N sh f)[k]? = some (G.1 + k, .inl (G.2.2.1 0, (sh k).2.1, .inl (f k))) := by rw [wl_at hk.1, cel_i hk.2]
  have hD : va_D (fun q => G.1 ≤ q) (wl G N sh f) := wl_D
  refine W.iast C.1 C.2.1 (hP k _ ha) ((C.2.2.2.2.2.1.1.2 0 _ (tys_i G)).1 (sh k).2.1 (fun j => .int (f k j))) (fun q => by cases q) (by show ¬ (i < 0 ∨ (arrV _ _ _).slots.size ≤ _); rw [arrV_size]; exact hin) rfl rfl hd fun H1 e z oq => ?_
  refine K H1 _ arr ?_ (z.trans hz) (hS.put z oq (Nat.le_add_right _ _)) hl
  have hP2 := hP.set hD ha (e := .inl (G.2.2.1 0, (sh k).2.1, .inl (fun b => if b = i.toNatClampNeg then x else f k b))) (H1 := H1) (by
    show H1[G.1 + k]? = some (vp_cell _ _)
    rw [e, vp_cell_i, vp_cell_i, arrV_store]
    congr 2
    funext q
    by_cases hq : q = i.toNatClampNeg
    · subst hq
      simp [updV]
    · simp [updV, hq]) oq
  rw [← cel_i (G := G) (q := sh k) hk.2, wl_setf, va_up_u2] at hP2
  exact hP2
theorem r_zast (C : Cx X G M lv mc ms N0) {k n : Nat} {i x : Int32} (hd : decode M.2.2.1 pc = .ok (.bastore, 1)) (hk : k < N ∧ (sh k).1 = 11) (hn : (sh k).2.1 = n) (hin : vp_in i n) (hv : x = 0 ∨ x = 1) (hcs : N = N0 ∧ cs = 0) (K : Vw X G M.2.2.2.1 cs sl Q N sh (u2 f k i.toNatClampNeg x) (pc + 1) ls st) : Vw X G M.2.2.2.1 cs sl Q N sh f pc ls (.int x :: .int i :: .ref (G.1 + k) :: st) := by
  intro H locs arr hP hz hS hl
  subst hn
  have ha : (wl G N sh f)[k]? = some (G.1 + k, .inl (G.2.2.1 1, (sh k).2.1, .inl (f k))) := by rw [wl_at hk.1, cel_z hk.2]
  have hD : va_D (fun q => G.1 ≤ q) (wl G N sh f) := wl_D
  obtain ⟨rfl, rfl⟩ := hcs
  refine va_zast C.1 C.2.1 C.2.2.2.2.2.1.1 hP hD hS k 1 ha (tys_z G) hin hd (fun H1 locs1 hP1 _ hS1 => ?_)
  have hnar : vp_nar .boolean x = x := by rcases hv with rfl | rfl <;> decide +kernel
  rw [hnar] at hP1
  have e1 : upd (f k) i.toNatClampNeg x = (fun b => if b = i.toNatClampNeg then x else f k b) := rfl
  rw [e1, ← cel_z (G := G) (q := sh k) hk.2, wl_setf, va_up_u2] at hP1
  intro T hT XX
  have hsz := C.2.2.2.2.2.2.2.2.2.2.2
  have h3 : T.heap.size ≤ X.2.2.2.2.1.heap.size + 0 := XX.same.2.2.1
  have h4 := hS1.1
  rw [hT] at h3
  exact K H1 locs1 arr hP1 (by omega) hS1 hl T hT XX
theorem r_aald (C : Cx X G M lv mc ms N0) {k n t b : Nat} {i : Int32} (hd : decode M.2.2.1 pc = .ok (.aaload, 1)) (hk : k < N ∧ (sh k).1 = b + 12) (hb3 : b < 3) (hn : (sh k).2.1 = n) (hin : vp_in i n) (ht : (sh k).2.2 i.toNatClampNeg = some t) (K : Vw X G M.2.2.2.1 cs sl Q N sh f (pc + 1) ls (.ref (G.1 + t) :: st)) : Vw X G M.2.2.2.1 cs sl Q N sh f pc ls (.int i :: .ref (G.1 + k) :: st) := by
  intro H locs arr hP hz hS hl
  have hty : ∃ Cn, (tysG G)[b + 2]? = some (G.2.2.1 (b + 2), .object Cn) := by
    match b, hb3 with
    | 0, _ => exact ⟨_, rfl⟩
    | 1, _ => exact ⟨_, rfl⟩
    | 2, _ => exact ⟨_, rfl⟩
  obtain ⟨Cn, hty⟩ := hty
  refine va_aldq C.1 C.2.1 C.2.2.2.2.2.1.1 hP k (b + 2) (by rw [wl_at hk.1, cel_r hk.2, hn]) hty hin hd ?_
  rw [ht]
  exact K H locs arr hP hz hS hl
theorem r_aaldN (C : Cx X G M lv mc ms N0) {k n b : Nat} {i : Int32} (hd : decode M.2.2.1 pc = .ok (.aaload, 1)) (hk : k < N ∧ (sh k).1 = b + 12) (hb3 : b < 3) (hn : (sh k).2.1 = n) (hin : vp_in i n) (ht : (sh k).2.2 i.toNatClampNeg = none) (K : Vw X G M.2.2.2.1 cs sl Q N sh f (pc + 1) ls (.null :: st)) : Vw X G M.2.2.2.1 cs sl Q N sh f pc ls (.int i :: .ref (G.1 + k) :: st) := by
  intro H locs arr hP hz hS hl
  have hty : ∃ Cn, (tysG G)[b + 2]? = some (G.2.2.1 (b + 2), .object Cn) := by
    match b, hb3 with
    | 0, _ => exact ⟨_, rfl⟩
    | 1, _ => exact ⟨_, rfl⟩
    | 2, _ => exact ⟨_, rfl⟩
  obtain ⟨Cn, hty⟩ := hty
  refine va_aldq C.1 C.2.1 C.2.2.2.2.2.1.1 hP k (b + 2) (by rw [wl_at hk.1, cel_r hk.2, hn]) hty hin hd ?_
  rw [ht]
  exact K H locs arr hP hz hS hl
end RH1
