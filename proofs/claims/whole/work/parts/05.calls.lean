/-! ROWS of returns and calls -/
section RR
variable {X : XT} {G : GG} {M : MD} {lv mc ms N0 : Nat} {cs sl : Nat} {N : Nat} {sh : SH} {f : MM} {pc : Nat} {ls : List (Option Value)} {post : PoT}
theorem r_iret (C : Cx X G M lv mc ms N0) {v : Int32} (hd : decode M.2.2.1 pc = .ok (.ireturn, 1)) (hr : M.2.2.2.2 = some .int) (hc : cs ≤ mc ∧ sl ≤ ms) (hp : post (some (.int v)) N sh f) : Vw X G M.2.2.2.1 cs sl (QQ X G post mc ms) N sh f pc ls [.int v] := by
  intro H locs arr hP hz hS hl
  obtain ⟨hx, hb, -, -, -, -, -, hlk, hrt, -⟩ := C
  refine W.widen hc.1 hc.2 ?_
  exact W.iret (v := v) hx hb (hrt.trans hr) (fun t ht hW => ⟨⟨_, N, sh, f, rfl, hp, by rw [ht]; exact hP, by rw [ht]; exact hz⟩, hS.F ht⟩) hS.2.2 hd hlk
theorem r_zret (C : Cx X G M lv mc ms N0) {v : Int32} (hd : decode M.2.2.1 pc = .ok (.ireturn, 1)) (hr : M.2.2.2.2 = some .boolean) (hv : v = 0 ∨ v = 1) (hc : cs ≤ mc ∧ sl ≤ ms) (hp : post (some (.int v)) N sh f) : Vw X G M.2.2.2.1 cs sl (QQ X G post mc ms) N sh f pc ls [.int v] := by
  intro H locs arr hP hz hS hl
  obtain ⟨hx, hb, -, -, -, -, -, hlk, hrt, -⟩ := C
  refine W.widen hc.1 hc.2 ?_
  exact W.zret (v := v) (ty := .boolean) hx hb (hrt.trans hr) (by rcases hv with rfl | rfl <;> decide +kernel) (fun t ht hW => ⟨⟨_, N, sh, f, rfl, hp, by rw [ht]; exact hP, by rw [ht]; exact hz⟩, hS.F ht⟩) hS.2.2 hd hlk
theorem r_vret (C : Cx X G M lv mc ms N0) (hd : decode M.2.2.1 pc = .ok (.return_, 1)) (hr : M.2.2.2.2 = none) (hc : cs ≤ mc ∧ sl ≤ ms) (hp : post none N sh f) : Vw X G M.2.2.2.1 cs sl (QQ X G post mc ms) N sh f pc ls [] := by
  intro H locs arr hP hz hS hl
  obtain ⟨hx, hb, -, -, -, -, -, hlk, hrt, -⟩ := C
  refine W.widen hc.1 hc.2 ?_
  exact W.vret hx hb (hrt.trans hr) (fun t ht hW => ⟨⟨_, N, sh, f, rfl, hp, by rw [ht]; exact hP, by rw [ht]; exact hz⟩, hS.F ht⟩) hS.2.2 hd hlk
end RR
theorem nw_tabs {w : Cond} (h : w ∈ nw) : w.onTables = true := by
  have h1 := (List.mem_filter.mp h).2
  cases w <;> first | rfl | (simp [vz_isNest] at h1)
theorem nw_warm {w : Cond} (h : w ∈ nw) {s U : State} (hW : s.WarmedH U.vm) (hZ : va_Nw w s) : va_Nw w U := by
  have h1 := (List.mem_filter.mp h).2
  cases w <;> first | (simp [vz_isNest] at h1; done) | exact va_Nw.warmF hW hZ | exact va_Nw.warmM hW hZ
theorem kkG.warm {G : GG} {s U : State} (h : kkG G s) (hW : s.WarmedH U.vm) : kkG G U := ⟨va_K.moved hW.alike h.1, fun w hw => nw_warm hw hW (h.2 w hw)⟩
theorem zsG.go {G : GG} {s U : State} {H0 H : Heap} {locs : List Loc} (h : zsG G s H0) (hA : s.vm.Alike U.vm) (hS : va_S (fun q => G.1 ≤ q) H0 H locs) : zsG G U H :=
  ⟨fun t ht => ⟨((h.1 t ht).1.moved hA).kept hS.2.1, ((h.1 t ht).2.moved hA).kept hS.2.1⟩, fun C hC => (h.2 C hC).moved hA⟩
theorem pcm_blind {G : GG} {av : List Value} {N : Nat} {sh : SH} {f : MM} : FrameBlind (Pcm G av N sh f) := by
  intro a U g mk q
  obtain ⟨q0, q1, q2, q3, q4⟩ := q
  exact ⟨q0, q1, q2, ⟨va_K.moved (u := U) (U := U.calling g mk a) (Vm.Alike.refl U.vm) q3.1, fun w hw => va_Nw.same (u := U) (U := U.calling g mk a) (nw_tabs hw) rfl (q3.2 w hw)⟩, ⟨fun t ht => ⟨(q4.1 t ht).1.moved (U := U.calling g mk a) (Vm.Alike.refl U.vm), (q4.1 t ht).2.moved (U := U.calling g mk a) (Vm.Alike.refl U.vm)⟩, fun C hC => (q4.2 C hC).moved (U := U.calling g mk a) (Vm.Alike.refl U.vm)⟩⟩
def Kl (own : String) (idx : Nat) (M2 : MD) (n : Nat) : Prop :=
  (Cond.methodLink own idx M2.2.1 ∈ gw ∨ ∃ host, Cond.methodLinkNest own idx M2.2.1 host ∈ nw) ∧ Cond.initialized M2.2.1.cls ∈ gw ∧ Cond.code M2.2.1 M2.2.2.1 M2.2.2.2.1 M2.2.2.2.2 ∈ gw ∧ (M2.2.1.cls ≠ "java/lang/invoke/MethodHandle" ∧ M2.2.1.cls ≠ "java/lang/invoke/VarHandle" ∧ (parseMethodDescriptor M2.2.1.desc).map (fun d => d.parameters.length) = some n) ∧ M2.2.2.2.1 ≤ 40
def KlV (own : String) (idx : Nat) (M2 : MD) (n ci : Nat) : Prop := Kl own idx M2 n ∧ Cond.instanceMethod M2.2.1 ∈ gw ∧ Cond.selects M2.2.1.cls M2.2.1 M2.2.1 ∈ gw ∧ ∃ T : u_T, vwCl[ci]? = some (M2.2.1.cls, T, nfl ci)
def KlS (own : String) (idx : Nat) (M2 : MD) (n : Nat) : Prop := Kl own idx M2 n ∧ Cond.static M2.2.1 ∈ gw
def KlI (own : String) (idx : Nat) (M2 : MD) (n : Nat) : Prop := Kl own idx M2 n ∧ Cond.instanceMethod M2.2.1 ∈ gw ∧ M2.2.1.name = "<init>" ∧ M2.2.2.2.2 = none
theorem gw_in {M2 : MD} (h : Cond.code M2.2.1 M2.2.2.1 M2.2.2.2.1 M2.2.2.2.2 ∈ gw) : GoodIn gw (wsM M2) := by
  intro w hw
  have : w ∈ gw := by
    rcases List.mem_cons.mp hw with rfl | h1
    · exact h
    · exact h1
  exact ⟨this, good_of_word (gw_good this)⟩
section RC
variable {X : XT} {G : GG} {M : MD} {lv mc ms N0 : Nat} {cs sl : Nat} {Q : State → Prop} {N : Nat} {sh : SH} {f : MM} {pc : Nat} {ls : List (Option Value)} {st : List Value} {post : PoT}
theorem r_run {nL mc2 ms2 : Nat} {a : Array Value} {rest : List Value} (hrun : ∀ (H : Heap) (locs : List Loc) (arr : Array Slot), va_P G.2.1 vwCl (wl G N sh f) H → H.size = G.1 + N → va_S (fun q => G.1 ≤ q) X.2.2.2.2.1.heap H locs → hasL arr nL ls → va_Run X.1 X.2.1 X.2.2.1 X.2.2.2.1 X.2.2.2.2.1 X.2.2.2.2.2.1 X.2.2.2.2.2.2.1 X.2.2.2.2.2.2.2.1 X.2.2.2.2.2.2.2.2.1 X.2.2.2.2.2.2.2.2.2 H locs cs sl mc2 ms2 (F0 X.2.2.2.2.2.1 pc arr st) rest (Qcm G post a) (fun q => G.1 ≤ q))
    (K : ∀ (r : Option Value) (N' : Nat) (sh' : SH) (f' : MM), post r N' sh' f' → Vw X G nL (cs + mc2) (sl + ms2) Q N' sh' f' (pc + 3) ls (r.toList ++ rest)) : Vw X G nL cs sl Q N sh f pc ls st := by
  intro H locs arr hP hz hS hl T hT XX
  obtain ⟨v, st0, t, T', L, h0, X', hL, e1, e2, ⟨⟨r, N', sh', f', hv, hp, hP', hz'⟩, hF⟩, stp⟩ := hrun H locs arr hP hz hS hl T hT XX
  cases hv
  rw [va_F, h0] at hF
  obtain ⟨t2, a1, b1⟩ := K v N' sh' f' hp T'.heap (locs ++ L) arr (by rw [e1]; exact hP') (by rw [e1]; exact hz')
    ⟨Nat.le_trans hS.1 (by rw [e1]; exact hF.1), fun q h1 h2 => by rw [e1, hF.2 q (Nat.lt_of_lt_of_le h1 hS.1) h2]; exact hS.2.1 q h1 h2, fun q hq => by
      rcases List.mem_append.mp hq with h | h
      · exact hS.2.2 q h
      · exact hL q h⟩ hl T' rfl X'
  exact ⟨t2, stp t2 a1, b1⟩
theorem pre_go (C : Cx X G M lv mc ms N0) {H : Heap} {locs : List Loc} {av : List Value} (hP : va_P G.2.1 vwCl (wl G N sh f) H) (hz : H.size = G.1 + N) (hS : va_S (fun q => G.1 ≤ q) X.2.2.2.2.1.heap H locs) : ∀ U : State, U.heap = H → X.2.2.2.2.1.WarmedH U.vm → Pcm G av N sh f av.toArray U := by
  intro U hU hW
  exact ⟨rfl, by rw [hU]; exact hP, by rw [hU]; exact hz, C.2.2.2.2.2.1.warm hW, by rw [hU]; exact C.2.2.2.2.2.2.1.go hW.alike hS⟩
theorem cat_room {m : MethodId} {pc : Nat} {arr : Array Slot} {st rest : List Value} (h : (rest.map fun v => v.category).sum ≤ 8) : 2 * (F0 m pc arr st).monitorRoom + (rest.map fun v => v.category).sum ≤ 8 := lv_room h
theorem rm_ok {lv2 lv mL : Nat} {mc2 ms2 mc ms : Nat} {R : Room} (hR : R = rmL lv mc ms) (h : lv2 + 1 ≤ lv) (hm : mL ≤ 40) : (rmL lv2 mc2 ms2).frames + 1 ≤ R.frames ∧ 8 + (mL + 11) + (rmL lv2 mc2 ms2).locals ≤ R.locals := by
  subst hR
  refine ⟨h, ?_⟩
  show 8 + (mL + 11) + (64 * lv2 + 64) ≤ 64 * lv + 64
  omega
theorem cells_ok {mc2 ms2 : Nat} {R : Room} (hR : R = rmL lv mc ms) (h : cs + mc2 ≤ mc ∧ sl + ms2 ≤ ms) : cs + mc2 ≤ R.cells ∧ sl + ms2 ≤ R.slots := by
  subst hR
  exact h
theorem r_callv (C : Cx X G M lv mc ms N0) {M2 : MD} {lv2 mc2 ms2 n ci k idx : Nat} {As rest : List Value} (hl : KlV M.1 idx M2 n ci) (hd : decode M.2.2.1 pc = .ok (.invokevirtual idx, 3)) (hM : Ct G M2 lv2 mc2 ms2 (.ref (G.1 + k) :: As) N sh f post) (hk : k < N ∧ (sh k).1 = ci) (hst : st = As.reverse ++ .ref (G.1 + k) :: rest) (hn : As.length = n) (hr : (rest.map fun v => v.category).sum ≤ 8) (hlv : lv2 + 1 ≤ lv) (hc : cs + mc2 ≤ mc ∧ sl + ms2 ≤ ms)
    (K : ∀ (r : Option Value) (N' : Nat) (sh' : SH) (f' : MM), post r N' sh' f' → Vw X G M.2.2.2.1 (cs + mc2) (sl + ms2) Q N' sh' f' (pc + 3) ls (r.toList ++ rest)) : Vw X G M.2.2.2.1 cs sl Q N sh f pc ls st := by
  obtain ⟨⟨hln, hini, hcode, hnm, hmx⟩, hins, hsel, T, hcl⟩ := hl
  refine r_run (a := (Value.ref (G.1 + k) :: As).toArray) (fun H locs arr hP hz hS hll => ?_) K
  have Cc := C
  obtain ⟨hx, hb, hml, hown, hts, ⟨hK, hN⟩, -, -, -, -, hR, -⟩ := C
  have he : (wl G N sh f)[k]? = some (G.1 + k, .inr (ci, fso G ci (sh k).2.2 (f k))) := by rw [wl_at hk.1, cel_o hk.2 (cl_lt hcl)]
  have hPV : PreV X.2.2.2.2.1 H M2.2.1.cls (G.1 + k) (Pcm G (.ref (G.1 + k) :: As) N sh f) As := ⟨pcm_blind, va_recv hK hP hcl he, pre_go Cc hP hz hS⟩
  have hrm := rm_ok (mc2 := mc2) (ms2 := ms2) hR hlv hmx
  rcases hln with hln | ⟨host, hln⟩
  · exact va_runV (C := M2.2.1.cls) (bytes := M2.2.2.1) (maxL := M2.2.2.2.1) (ret := M2.2.2.2.2) (n := n) ⟨hx, hb, hml, hown, hts⟩ (hM _) ⟨callB_of n hts (gw_in hcode) rfl rfl rfl (hts _ hini) (hts _ hln) hnm hrm, hts _ hins, hts _ hsel⟩ hPV rfl hn hll.1 hst (cat_room hr) hd (cells_ok hR hc)
  · exact va_runVN (C := M2.2.1.cls) (bytes := M2.2.2.1) (maxL := M2.2.2.2.1) (ret := M2.2.2.2.2) (n := n) ⟨hx, hb, hml, hown, hts⟩ (hM _) ⟨va_cnB n hts (gw_in hcode) rfl rfl rfl (hN _ hln) (hts _ hini) hnm hrm, hts _ hins, hts _ hsel⟩ hPV rfl hn hll.1 hst (cat_room hr) hd (cells_ok hR hc)
theorem r_calls (C : Cx X G M lv mc ms N0) {M2 : MD} {lv2 mc2 ms2 n idx : Nat} {As rest : List Value} (hl : KlS M.1 idx M2 n) (hd : decode M.2.2.1 pc = .ok (.invokestatic idx, 3)) (hM : Ct G M2 lv2 mc2 ms2 As N sh f post) (hst : st = As.reverse ++ rest) (hn : As.length = n) (hr : (rest.map fun v => v.category).sum ≤ 8) (hlv : lv2 + 1 ≤ lv) (hc : cs + mc2 ≤ mc ∧ sl + ms2 ≤ ms)
    (K : ∀ (r : Option Value) (N' : Nat) (sh' : SH) (f' : MM), post r N' sh' f' → Vw X G M.2.2.2.1 (cs + mc2) (sl + ms2) Q N' sh' f' (pc + 3) ls (r.toList ++ rest)) : Vw X G M.2.2.2.1 cs sl Q N sh f pc ls st := by
  obtain ⟨⟨hln, hini, hcode, hnm, hmx⟩, hstat⟩ := hl
  refine r_run (a := As.toArray) (fun H locs arr hP hz hS hll => ?_) K
  have Cc := C
  obtain ⟨hx, hb, hml, hown, hts, ⟨hK, hN⟩, -, -, -, -, hR, -⟩ := C
  have hPS : PreS X.2.2.2.2.1 H (Pcm G As N sh f) As := ⟨pcm_blind, pre_go Cc hP hz hS⟩
  have hrm := rm_ok (mc2 := mc2) (ms2 := ms2) hR hlv hmx
  rcases hln with hln | ⟨host, hln⟩
  · exact va_runS (bytes := M2.2.2.1) (maxL := M2.2.2.2.1) (ret := M2.2.2.2.2) (n := n) ⟨hx, hb, hml, hown, hts⟩ (hM _) ⟨callB_of n hts (gw_in hcode) rfl rfl rfl (hts _ hini) (hts _ hln) hnm hrm, hts _ hstat⟩ hPS rfl hn hll.1 hst (cat_room hr) hd (cells_ok hR hc)
  · exact va_runSN (bytes := M2.2.2.1) (maxL := M2.2.2.2.1) (ret := M2.2.2.2.2) (n := n) ⟨hx, hb, hml, hown, hts⟩ (hM _) ⟨va_cnB n hts (gw_in hcode) rfl rfl rfl (hN _ hln) (hts _ hini) hnm hrm, hts _ hstat, trivial⟩ hPS rfl hn hll.1 hst (cat_room hr) hd (cells_ok hR hc)
theorem r_calli (C : Cx X G M lv mc ms N0) {M2 : MD} {lv2 mc2 ms2 n k idx : Nat} {As rest : List Value} (hl : KlI M.1 idx M2 n) (hd : decode M.2.2.1 pc = .ok (.invokespecial idx, 3)) (hM : Ct G M2 lv2 mc2 ms2 (.ref (G.1 + k) :: As) N sh f post) (hst : st = As.reverse ++ .ref (G.1 + k) :: rest) (hn : As.length = n) (hr : (rest.map fun v => v.category).sum ≤ 8) (hlv : lv2 + 1 ≤ lv) (hc : cs + mc2 ≤ mc ∧ sl + ms2 ≤ ms)
    (K : ∀ (r : Option Value) (N' : Nat) (sh' : SH) (f' : MM), post r N' sh' f' → Vw X G M.2.2.2.1 (cs + mc2) (sl + ms2) Q N' sh' f' (pc + 3) ls (r.toList ++ rest)) : Vw X G M.2.2.2.1 cs sl Q N sh f pc ls st := by
  obtain ⟨⟨hln, hini, hcode, hnm, hmx⟩, hins, hname, hret⟩ := hl
  refine r_run (a := (Value.ref (G.1 + k) :: As).toArray) (fun H locs arr hP hz hS hll => ?_) K
  have Cc := C
  obtain ⟨hx, hb, hml, hown, hts, ⟨hK, hN⟩, -, -, -, -, hR, -⟩ := C
  have hPS : PreS X.2.2.2.2.1 H (Pcm G (.ref (G.1 + k) :: As) N sh f) (.ref (G.1 + k) :: As) := ⟨pcm_blind, pre_go Cc hP hz hS⟩
  have hrm := rm_ok (mc2 := mc2) (ms2 := ms2) hR hlv hmx
  have hws : wsM M2 = Cond.code M2.2.1 M2.2.2.1 M2.2.2.2.1 none :: gw := by rw [wsM, hret]
  rcases hln with hln | ⟨host, hln⟩
  · exact va_runI (bytes := M2.2.2.1) (maxL := M2.2.2.2.1) (n := n) ⟨hx, hb, hml, hown, hts⟩ (hM _) ⟨callB_of n hts (gw_in hcode) hws rfl rfl (hts _ hini) (hts _ hln) hnm hrm, hname, hts _ hins⟩ hPS rfl hn hll.1 hst (cat_room hr) hd (cells_ok hR hc)
  · exact va_runIN (bytes := M2.2.2.1) (maxL := M2.2.2.2.1) (n := n) ⟨hx, hb, hml, hown, hts⟩ (hM _) ⟨va_cnB n hts (gw_in hcode) hws rfl rfl (hN _ hln) (hts _ hini) hnm hrm, hname, hts _ hins⟩ hPS rfl hn hll.1 hst (cat_room hr) hd (cells_ok hR hc)
end RC
