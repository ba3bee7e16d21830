/-! ROWS: arraycopy, static tables, things made -/
section RM1
variable {X : XT} {G : GG} {M : MD} {lv mc ms N0 : Nat} {cs sl : Nat} {Q : State → Prop} {N : Nat} {sh : SH} {f : MM} {pc : Nat} {ls : List (Option Value)} {st : List Value}
def Kcopy (own : String) (idx : Nat) : Prop := Cond.methodLink own idx arraycopyName ∈ gw ∧ Cond.native arraycopyName ∈ gw ∧ Cond.static arraycopyName ∈ gw ∧ Cond.initialized "java/lang/System" ∈ gw
theorem r_copyi (C : Cx X G M lv mc ms N0) {idx a b na nb : Nat} {sp dp n : Int32} (hw : Kcopy M.1 idx) (hd : decode M.2.2.1 pc = .ok (.invokestatic idx, 3)) (ha : a < N ∧ (sh a).1 = 10) (hna : (sh a).2.1 = na) (hb : b < N ∧ (sh b).1 = 10) (hnb : (sh b).2.1 = nb) (h1 : ¬ sp < 0) (h2 : ¬ dp < 0) (h3 : ¬ n < 0) (h4 : sp.toNatClampNeg + n.toNatClampNeg ≤ na) (h5 : dp.toNatClampNeg + n.toNatClampNeg ≤ nb) (hcs : N = N0 ∧ cs = 0) (hlv : 1 ≤ lv) (hr : (st.map fun v => v.category).sum ≤ 8)
    (K : Vw X G M.2.2.2.1 cs sl Q N sh (va_up f b (va_cpy (f a) (f b) sp.toNatClampNeg dp.toNatClampNeg n.toNatClampNeg)) (pc + 3) ls st) : Vw X G M.2.2.2.1 cs sl Q N sh f pc ls (.int n :: .int dp :: .ref (G.1 + b) :: .int sp :: .ref (G.1 + a) :: st) := by
  intro H locs arr hP hz hS hl
  obtain ⟨w1, w2, w3, w4⟩ := hw
  have Cc := C
  obtain ⟨hx, hbb, hml, hown, hts, ⟨hK, hN⟩, -, -, -, -, hR, hsz⟩ := C
  subst hna; subst hnb
  obtain ⟨rfl, rfl⟩ := hcs
  have ea : (wl G N sh f)[a]? = some (G.1 + a, .inl (G.2.2.1 0, (sh a).2.1, .inl (f a))) := by rw [wl_at ha.1, cel_i ha.2]
  have eb : (wl G N sh f)[b]? = some (G.1 + b, .inl (G.2.2.1 0, (sh b).2.1, .inl (f b))) := by rw [wl_at hb.1, cel_i hb.2]
  refine va_copyi hx hbb (hml.trans hl.1.symm) hown (hts _ w1) (hts _ w2) (hts _ w3) (hts _ w4) hK hP wl_D hS a b 0 0 ea eb (tys_i G) (tys_i G) rfl h1 h2 h3 h4 h5 (fun _ _ => rfl) (by rw [hR]; exact hlv) (by
    rw [hR]
    show _ + (nativeFrameWords "java/lang/System" "arraycopy" 5 + 11) ≤ 64 * lv + 64
    have : nativeFrameWords "java/lang/System" "arraycopy" 5 + 11 ≤ 64 := by decide +kernel
    omega) hd (fun H1 locs1 hP1 _ hS1 => ?_)
  rw [← cel_i (G := G) (q := sh b) hb.2, wl_setf] at hP1
  intro T hT XX
  have g3 : T.heap.size ≤ X.2.2.2.2.1.heap.size + 0 := XX.same.2.2.1
  have g4 := hS1.1
  rw [hT] at g3
  exact K H1 locs1 arr hP1 (by omega) hS1 hl T hT XX
theorem r_gets (C : Cx X G M lv mc ms N0) {idx t : Nat} (ht : t < 3) (hw : Cond.fieldLink M.1 idx RX1 (vz_tabN t) "[I" ∈ gw) (hd : decode M.2.2.1 pc = .ok (.getstatic idx, 3)) (K : Vw X G M.2.2.2.1 cs sl Q N sh f (pc + 3) ls (.ref (G.2.2.2 t) :: st)) : Vw X G M.2.2.2.1 cs sl Q N sh f pc ls st := by
  intro H locs arr hP hz hS hl
  exact va_gets C.1 C.2.1 (C.2.2.2.2.2.2.1.1 t ht).1 hS C.2.2.2.1 (C.2.2.2.2.1 _ hw) (fun _ h => h) hd (K H locs arr hP hz hS hl)
theorem r_tald (C : Cx X G M lv mc ms N0) {t : Nat} {i : Int32} (ht : t < 3) (hd : decode M.2.2.1 pc = .ok (.iaload, 1)) (hin : vp_in i 6) (K : Vw X G M.2.2.2.1 cs sl Q N sh f (pc + 1) ls (.int (vz_tab t i.toNatClampNeg) :: st)) : Vw X G M.2.2.2.1 cs sl Q N sh f pc ls (.int i :: .ref (G.2.2.2 t) :: st) := by
  intro H locs arr hP hz hS hl
  obtain ⟨cell, h1, h2, h3, h4, h5, h6, h7⟩ := (C.2.2.2.2.2.2.1.1 t ht).2.kept hS.2.1
  have hlt : i.toNatClampNeg < 6 := Nat.not_le.mp fun q => hin (Or.inr q)
  exact W.iald (v := .int (vz_tab t i.toNatClampNeg)) C.1 C.2.1 h1 h2 h3 (fun q => hin (q.elim Or.inl (fun q => Or.inr (Nat.le_trans h4 q)))) (h6 _ hlt) rfl rfl hd (K H locs arr hP hz hS hl)
theorem r_objInit (C : Cx X G M lv mc ms N0) {idx a : Nat} (h1 : Cond.methodLink M.1 idx Lib.objectInit ∈ gw) (h2 : Cond.instanceMethod Lib.objectInit ∈ gw) (h3 : Cond.code Lib.objectInit ⟨#[0xb1]⟩ 1 none ∈ gw) (hd : decode M.2.2.1 pc = .ok (.invokespecial idx, 3)) (hlv : 1 ≤ lv) (hr : (st.map fun v => v.category).sum ≤ 8) (K : Vw X G M.2.2.2.1 cs sl Q N sh f (pc + 3) ls st) : Vw X G M.2.2.2.1 cs sl Q N sh f pc ls (.ref a :: st) := by
  intro H locs arr hP hz hS hl
  obtain ⟨hx, hbb, hml, hown, hts, ⟨hK, hN⟩, -, -, -, -, hR, hsz⟩ := C
  refine W.objInit hx hbb hown (hts _ h1) (hts _ h2) (hts _ h3) rfl (hl.1.trans hml.symm) rfl hd (by rw [hR]; exact hlv) ?_ (K H locs arr hP hz hS hl)
  have := cat_room (m := X.2.2.2.2.2.1) (pc := pc) (arr := arr) (st := .ref a :: st) hr
  rw [hR]
  show _ ≤ 64 * lv + 64
  omega
end RM1
section RM2
variable {X : XT} {G : GG} {M : MD} {lv mc ms N0 : Nat} {cs sl : Nat} {Q : State → Prop} {N : Nat} {sh : SH} {f : MM} {pc : Nat} {ls : List (Option Value)} {st : List Value}
theorem wl_new {H H1 : Heap} {q : Nat × Nat × (Nat → Option Nat)} {fk : Nat → Int32} (hP : va_P G.2.1 vwCl (wl G N sh f) H) (hz : H.size = G.1 + N) (ho : ∀ q : Nat, q < G.1 + N → H1[q]? = H[q]?) (hc : va_at G.2.1 vwCl (G.1 + N, cel G q fk) H1) : va_P G.2.1 vwCl (wl G (N + 1) (va_up sh N q) (va_up f N fk)) H1 := by
  rw [← wl_push]
  refine va_P.app (hP.kept (fun k x hx => ho x.1 ?_)) (fun k x hx => ?_)
  · have := (hP k x hx).lt
    omega
  · have hz : k < 1 := (List.getElem?_eq_some_iff.mp hx).1
    rw [show k = 0 by omega] at hx
    cases hx
    exact hc
theorem sS_new {H0 H H1 : Heap} {locs : List Loc} (hS : va_S (fun q => G.1 ≤ q) H0 H locs) (hz : H.size = G.1 + N) (hz1 : H1.size = G.1 + N + 1) (ho : ∀ q : Nat, q < G.1 + N → H1[q]? = H[q]?) : va_S (fun q => G.1 ≤ q) H0 H1 locs :=
  ⟨Nat.le_trans hS.1 (by omega), fun x h1 h2 => (ho x (by have := hS.1; omega)).trans (hS.2.1 x h1 h2), hS.2.2⟩
theorem r_new (C : Cx X G M lv mc ms N0) {idx ci : Nat} {Cn : String} {T : u_T} {ty : Nat → FieldType} (h1 : Cond.classLink M.1 idx Cn ∈ gw) (h2 : Cond.instantiable Cn (nfl ci) ∈ gw) (h3 : Cond.initialized Cn ∈ gw) (hcl : vwCl[ci]? = some (Cn, T, nfl ci)) (hin : ∀ w ∈ u_ws Cn T (nfl ci), w ∈ gw) (hty : ∀ k, k < nfl ci → parseFieldDescriptor (T k).2.2.1 = some (ty k)) (hdf : ∀ k, k < nfl ci → defaultValue (ty k) = if rft ci k = true then .null else .int 0) (hd : decode M.2.2.1 pc = .ok (.new idx, 3)) (hc : cs + 1 ≤ mc ∧ sl + nfl ci ≤ ms)
    (K : Vw X G M.2.2.2.1 (cs + 1) (sl + nfl ci) Q (N + 1) (va_up sh N (ci, 0, fun _ => none)) (va_up f N (fun _ => 0)) (pc + 3) ls (.ref (G.1 + N) :: st)) : Vw X G M.2.2.2.1 cs sl Q N sh f pc ls st := by
  intro H locs arr hP hz hS hl
  obtain ⟨hx, hbb, hml, hown, hts, ⟨hK, hN⟩, -, -, -, -, hR, hsz⟩ := C
  have hKn := hK.1 ci _ hcl
  have hcc := cells_ok (mc2 := 1) (ms2 := nfl ci) hR hc
  refine W.newcK hx hbb hown (hts _ h1) (hts _ h2) (hts _ h3) rfl hd hcc.1 hcc.2 hKn.2.1 hz fun H1 kC hkC e1 z1 o1 => ?_
  refine K H1 locs arr (wl_new hP hz o1 ?_) (by rw [z1]; omega) (sS_new hS hz z1 o1) hl
  rw [cel_o rfl (cl_lt hcl)]
  refine ⟨_, hcl, (u_born ty hts hin hKn hkC e1 hty).to (fun j hj => ?_)⟩
  rw [hdf j hj]
  show _ = (fso G ci (fun _ => none) (fun _ => 0)).getD j .null
  rw [List.getD_eq_getElem?_getD, fso_at hj]
  by_cases hr : rft ci j = true
  · simp [hr, va_rf]
  · simp [hr]
theorem r_newi (C : Cx X G M lv mc ms N0) {n : Int32} (Nn : Nat) (hw : Cond.arrayClass .int ∈ gw) (hn : ¬ n < 0) (hN : n.toNatClampNeg = Nn) (hb : Nn ≤ 2000) (hd : decode M.2.2.1 pc = .ok (.newarray .int, 2)) (hc : cs + 1 ≤ mc ∧ sl + Nn ≤ ms)
    (K : Vw X G M.2.2.2.1 (cs + 1) (sl + Nn) Q (N + 1) (va_up sh N (10, Nn, fun _ => none)) (va_up f N (fun _ => 0)) (pc + 2) ls (.ref (G.1 + N) :: st)) : Vw X G M.2.2.2.1 cs sl Q N sh f pc ls (.int n :: st) := by
  intro H locs arr hP hz hS hl
  obtain ⟨hx, hbb, hml, hown, hts, ⟨hK, hN2⟩, -, -, -, -, hR, hsz⟩ := C
  have hcc := cells_ok (mc2 := 1) (ms2 := Nn) hR hc
  refine va_newaK (atype := .int) hx hbb (hts _ hw) rfl hd rfl hn hN (by show Nn * 4 ≤ _; omega) hcc.1 hcc.2 hz fun H1 cA e1 z1 o1 hAr hNm => ?_
  refine K H1 locs arr (wl_new hP hz o1 ?_) (by rw [z1]; omega) (sS_new hS hz z1 o1) hl
  rw [cel_i rfl]
  have hRA := (hK.2 0 _ (tys_i G)).2
  have : cA = G.2.2.1 0 := Option.some.inj (hNm.symm.trans hRA)
  subst this
  exact e1
theorem r_newz (C : Cx X G M lv mc ms N0) {n : Int32} (Nn : Nat) (hw : Cond.arrayClass .boolean ∈ gw) (hn : ¬ n < 0) (hN : n.toNatClampNeg = Nn) (hb : Nn ≤ 2000) (hd : decode M.2.2.1 pc = .ok (.newarray .boolean, 2)) (hc : cs + 1 ≤ mc ∧ sl + Nn ≤ ms)
    (K : Vw X G M.2.2.2.1 (cs + 1) (sl + Nn) Q (N + 1) (va_up sh N (11, Nn, fun _ => none)) (va_up f N (fun _ => 0)) (pc + 2) ls (.ref (G.1 + N) :: st)) : Vw X G M.2.2.2.1 cs sl Q N sh f pc ls (.int n :: st) := by
  intro H locs arr hP hz hS hl
  obtain ⟨hx, hbb, hml, hown, hts, ⟨hK, hN2⟩, -, -, -, -, hR, hsz⟩ := C
  have hcc := cells_ok (mc2 := 1) (ms2 := Nn) hR hc
  refine va_newaK (atype := .boolean) hx hbb (hts _ hw) rfl hd rfl hn hN (by show Nn * 1 ≤ _; omega) hcc.1 hcc.2 hz fun H1 cA e1 z1 o1 hAr hNm => ?_
  refine K H1 locs arr (wl_new hP hz o1 ?_) (by rw [z1]; omega) (sS_new hS hz z1 o1) hl
  rw [cel_z rfl]
  have hRA := (hK.2 1 _ (tys_z G)).2
  have : cA = G.2.2.1 1 := Option.some.inj (hNm.symm.trans hRA)
  subst this
  exact e1
theorem r_anew (C : Cx X G M lv mc ms N0) {idx b : Nat} {Cn : String} {n : Int32} (Nn : Nat) (h1 : Cond.classLink M.1 idx Cn ∈ gw) (h2 : Cn = RX5 ∨ Cn = RX6 ∨ Cn = RX7) (hty : (tysG G)[b + 2]? = some (G.2.2.1 (b + 2), .object Cn)) (hn : ¬ n < 0) (hN : n.toNatClampNeg = Nn) (hb : Nn ≤ 2000) (hd : decode M.2.2.1 pc = .ok (.anewarray idx, 3)) (hc : cs + 1 ≤ mc ∧ sl + Nn ≤ ms)
    (K : Vw X G M.2.2.2.1 (cs + 1) (sl + Nn) Q (N + 1) (va_up sh N (b + 12, Nn, fun _ => none)) (va_up f N (fun _ => 0)) (pc + 3) ls (.ref (G.1 + N) :: st)) : Vw X G M.2.2.2.1 cs sl Q N sh f pc ls (.int n :: st) := by
  intro H locs arr hP hz hS hl
  subst hN
  obtain ⟨hx, hbb, hml, hown, hts, ⟨hK, hN2⟩, hzz, -, -, -, hR, hsz⟩ := C
  have hcc := cells_ok (mc2 := 1) (ms2 := n.toNatClampNeg) hR hc
  refine W.anew hx hbb hown (hts _ h1) (hzz.2 _ h2).use rfl hd rfl hn (by omega) hcc.1 hcc.2 fun cA kA comp f1 f2 f3 f4 => ?_
  rw [hz]
  generalize hH1 : H.push ({ cls := cA, slots := Array.replicate n.toNatClampNeg .null, vm := .none } : Cell) = H1
  have z1 : H1.size = G.1 + N + 1 := by rw [← hH1, Array.size_push, hz]
  have e1 : H1[G.1 + N]? = some (arrV cA n.toNatClampNeg (fun _ => .null)) := by rw [← hH1, ← hz, Array.getElem?_push_size, ← arrV_new]
  have o1 : ∀ q : Nat, q < G.1 + N → H1[q]? = H[q]? := fun q hq => by rw [← hH1, Array.getElem?_push, if_neg (by omega)]
  refine K H1 locs arr (wl_new hP hz o1 ?_) (by rw [z1]; omega) (sS_new hS hz z1 o1) hl
  rw [cel_r rfl]
  obtain ⟨kA', comp', r1, r2, r3, r4⟩ := (hK.2 (b + 2) _ hty).2
  have : cA = G.2.2.1 (b + 2) := Option.some.inj (f1.symm.trans r4)
  subst this
  exact e1
theorem r_aast (C : Cx X G M lv mc ms N0) {k n t b ci : Nat} {r : vw_C} {i : Int32} (hd : decode M.2.2.1 pc = .ok (.aastore, 1)) (hk : k < N ∧ (sh k).1 = b + 12) (hn : (sh k).2.1 = n) (hty : (tysG G)[b + 2]? = some (G.2.2.1 (b + 2), .object r.1)) (hin : vp_in i n) (ht : t < N ∧ (sh t).1 = ci) (hcl : vwCl[ci]? = some r)
    (K : Vw X G M.2.2.2.1 cs sl Q N (va_up sh k (b + 12, n, va_up (sh k).2.2 i.toNatClampNeg (some t))) f (pc + 1) ls st) : Vw X G M.2.2.2.1 cs sl Q N sh f pc ls (.ref (G.1 + t) :: .int i :: .ref (G.1 + k) :: st) := by
  intro H locs arr hP hz hS hl
  subst hn
  obtain ⟨hx, hbb, hml, hown, hts, ⟨hK, hN2⟩, -, -, -, -, hR, hsz⟩ := C
  have ha : (wl G N sh f)[k]? = some (G.1 + k, .inl (G.2.2.1 (b + 2), (sh k).2.1, .inr (.inr (.inr (.inr (fun j => ((sh k).2.2 j).map (fun t => G.1 + t))))))) := by rw [wl_at hk.1, cel_r hk.2]
  have hv : (wl G N sh f)[t]? = some (G.1 + t, .inr (ci, fso G ci (sh t).2.2 (f t))) := by rw [wl_at ht.1, cel_o ht.2 (cl_lt hcl)]
  have hlt : i.toNatClampNeg < (sh k).2.1 := Nat.not_le.mp fun q => hin (Or.inr q)
  have h0 : ¬ i < 0 := fun q => hin (Or.inl q)
  obtain ⟨r', hr', cellV, g1, g2, g3, -⟩ := hP t _ hv
  have hcls := (hK.1 ci r hcl).2
  obtain ⟨kA, comp, k1, k2, k3, -⟩ := (hK.2 (b + 2) _ hty).2
  have hcomp : comp = G.2.1.1 ci := Option.some.inj (k3.symm.trans hcls.1)
  subst hcomp
  obtain ⟨kC, hkC, -⟩ := hcls.2
  refine W.aast hx hbb (hP k _ ha) (fun q h => by cases h) (fun h => by cases h) k1 k2 rfl hkC ⟨h0, by show _ < (arrV _ _ _).slots.size; rw [arrV_size]; exact hlt⟩ g1 (fun q h => by rw [g3] at h; cases h) (by rw [g2]; exact hkC) (by rw [g2]; exact va_assign hcls) rfl rfl hd fun H1 e z oq => ?_
  refine K H1 _ arr ?_ (z.trans hz) (hS.put z oq (Nat.le_add_right _ _)) hl
  have hP2 := hP.set wl_D ha (e := .inl (G.2.2.1 (b + 2), (sh k).2.1, .inr (.inr (.inr (.inr (fun j => ((va_up (sh k).2.2 i.toNatClampNeg (some t)) j).map (fun t => G.1 + t))))))) (H1 := H1) (by
    show H1[G.1 + k]? = some (vp_cell _ _)
    rw [e, vp_cell_q, vp_cell_q, arrV_store]
    congr 2
    funext q
    by_cases hq : q = i.toNatClampNeg
    · subst hq
      simp [updV, va_up, va_rf]
    · simp [updV, va_up, hq]) oq
  rw [← cel_r (G := G) (q := (b + 12, (sh k).2.1, va_up (sh k).2.2 i.toNatClampNeg (some t))) (fk := f k) rfl, wl_set] at hP2
  have e2 : va_up f k (f k) = f := by
    funext i
    by_cases h : i = k
    · subst h; simp [va_up]
    · simp [va_up, h]
  rw [e2] at hP2
  exact hP2
theorem r_putF (C : Cx X G M lv mc ms N0) {idx ci j k t : Nat} {ty : FieldType} (hf : Fl M.1 idx ci j) (hft : Ft ci j ty true) (hd : decode M.2.2.1 pc = .ok (.putfield idx, 3)) (hk : k < N ∧ (sh k).1 = ci) (hr : rft ci j = true) (hnm : M.2.1.name = "<init>") (hown2 : ∃ T, vwCl[ci]? = some (M.1, T, nfl ci)) (hpl : ∀ T, vwCl[ci]? = some (M.1, T, nfl ci) → Cond.fieldLink M.1 idx M.1 (T j).2.1 (T j).2.2.1 ∈ gw) (hn : narrow ty (.ref (G.1 + t)) = .ref (G.1 + t)) (hfit : fits ty (.ref (G.1 + t)) = true)
    (K : Vw X G M.2.2.2.1 cs sl Q N (va_up sh k (ci, (sh k).2.1, va_up (sh k).2.2 j (some t))) f (pc + 3) ls st) : Vw X G M.2.2.2.1 cs sl Q N sh f pc ls (.ref (G.1 + t) :: .ref (G.1 + k) :: st) := by
  intro H locs arr hP hz hS hl
  obtain ⟨hx, hb, -, hown, hts, ⟨hK, hNw⟩, -, -, -, hmn, -⟩ := C
  obtain ⟨T, h1⟩ := hown2
  obtain ⟨Cn2, T2, b1, h2, h3, h4, -⟩ := hf
  have e00 := Option.some.inj (b1.symm.trans h1)
  simp only [Prod.mk.injEq] at e00
  obtain ⟨rfl, rfl, -⟩ := e00
  obtain ⟨Cn', T', ty0, g1, hty, hnmm, gt, gf⟩ := hft
  have e0 := Option.some.inj (g1.symm.trans h1)
  simp only [Prod.mk.injEq] at e0
  obtain ⟨rfl, rfl, -⟩ := e0
  have hlk := hpl _ h1
  have he : (wl G N sh f)[k]? = some (G.1 + k, .inr (ci, fso G ci (sh k).2.2 (f k))) := by rw [wl_at hk.1, cel_o hk.2 (cl_lt h1)]
  have hap := va_apart (own := M.1) hts h4 ty0 hty hnmm hK h1
  obtain ⟨r, r1, cell, q1, q2, q3, q4⟩ := hP k _ he
  have hrr : r = _ := Option.some.inj (r1.symm.trans h1)
  subst hrr
  obtain ⟨hSl, hfc, kC, hkC, hkind⟩ := hK.1 ci _ h1
  obtain ⟨cf, kf, fi, fd, hi, hsl⟩ := hSl j h2
  have hlay := hts _ (h4 _ (u_in_lay h2))
  unfold u_lay at hlay
  rw [if_pos gf] at hlay
  have hst := (u_facts hfc hkC (u_lays hts h4 h2) hi).1
  have hcf : X.2.2.2.2.2.1.cls = cf := by
    obtain ⟨_, _, c', _, _, _, -, -, hf', -, -, -, hownn, -⟩ := Cond.laysFinal_spec hlay
    have e1 : c' = cf := by have := hi.symm.trans hf'; simp at this; exact this.1.symm
    rw [h3] at hownn
    rw [← e1]; exact Option.some.inj (hown.symm.trans hownn)
  have h6 := u_fits hfc hkC hkind (Or.inr hlay) hi (by rw [hty j h2, gt]) hn hfit
  refine W.putFinK hx hb hown (hts _ hlk) (by rw [h3] at hi; exact hi) hst hcf (hmn.trans hnm) (by rw [q2]; exact h6) q1 q3 (by rw [hsl]; exact k2_hasslot (q4 j h2)) rfl rfl hd fun H' e1 e2 e3 => ?_
  refine K H' _ arr ?_ (e2.trans hz) (hS.put e2 e3 (Nat.le_add_right _ _)) hl
  rw [hsl] at e1
  have hP2 := hP.set wl_D he (e := .inr (ci, (fso G ci (sh k).2.2 (f k)).set j (.ref (G.1 + t)))) ⟨_, h1, t_OB.to (V := updV (vp_V (fso G ci (sh k).2.2 (f k))) j (.ref (G.1 + t))) ⟨_, e1, q2, q3, t_set q4 hap h2 _⟩ (fun i _ => vp_updV_set (by rw [fso_len]; exact h2) _ i)⟩ e3
  rw [fso_setr hr, ← cel_o (G := G) (q := (ci, (sh k).2.1, va_up (sh k).2.2 j (some t))) (fk := f k) rfl (cl_lt h1), wl_set] at hP2
  have e4 : va_up f k (f k) = f := by
    funext i
    by_cases h : i = k
    · subst h; simp [va_up]
    · simp [va_up, h]
  rw [e4] at hP2
  exact hP2
end RM2
