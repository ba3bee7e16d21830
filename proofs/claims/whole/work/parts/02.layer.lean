/-! THE LAYER: a world of numbered cells behind a base; one judgement for a frame in it -/
abbrev XT : Type := Program × Launch × Env × Room × State × MethodId × Array Value × List Frame × Method × Code
abbrev GG : Type := Nat × va_G × (Nat → ClassId) × (Nat → Nat)
abbrev MD : Type := String × MethodName × ByteArray × Nat × Option FieldType
abbrev SH : Type := Nat → Nat × Nat × (Nat → Option Nat)
abbrev MM : Type := Nat → Nat → Int32
def vz_isNest : Cond → Bool
  | .fieldLinkNest _ _ _ _ _ _ => true
  | .methodLinkNest _ _ _ _ => true
  | _ => false
def gw : List Cond := lw_tbl.filter goodWord
def nw : List Cond := lw_tbl.filter vz_isNest
theorem gw_at {i : Nat} {w : Cond} (h : lw_tbl[i]? = some w) (hg : goodWord w = true) : w ∈ gw := List.mem_filter.mpr ⟨List.mem_of_getElem? h, hg⟩
theorem nw_at {i : Nat} {w : Cond} (h : lw_tbl[i]? = some w) (hg : vz_isNest w = true) : w ∈ nw := List.mem_filter.mpr ⟨List.mem_of_getElem? h, hg⟩
theorem gw_good {w : Cond} (h : w ∈ gw) : goodWord w = true := (List.mem_filter.mp h).2
/-- the array classes: int, boolean, rows, walkers, ways -/
def tysG (G : GG) : List (ClassId × FieldType) := [(G.2.2.1 0, .int), (G.2.2.1 1, .boolean), (G.2.2.1 2, .object RX5), (G.2.2.1 3, .object RX6), (G.2.2.1 4, .object RX7)]
/-- the three static tables of the asker -/
def vz_tab : Nat → Nat → Int32 := fun t j => match t with
  | 0 => [-1, 0, 1, 1, 0, 4].getD j 0
  | 1 => [10, 11, 12, 0, 13, 14].getD j 0
  | _ => [20, 21, 24, 22, 23, 0].getD j 0
def vz_tabN : Nat → String := fun t => match t with
  | 0 => "KIND_ABOVE"
  | 1 => "SIZE_BODIES"
  | _ => "MARK_BODIES"
def zsG (G : GG) (U : State) (H : Heap) : Prop := (∀ t, t < 3 → va_Z RX1 (vz_tabN t) "[I" (.ref (G.2.2.2 t)) (fun q => G.1 ≤ q) U H ∧ va_T .int (G.2.2.2 t) 6 (fun j => .int (vz_tab t j)) (fun q => G.1 ≤ q) U H) ∧ ∀ C, (C = RX5 ∨ C = RX6 ∨ C = RX7) → va_AO C U
def kkG (G : GG) (U : State) : Prop := va_K G.2.1 vwCl (tysG G) U ∧ ∀ w ∈ nw, va_Nw w U
def nfl (ci : Nat) : Nat := [3, 2, 7, 3, 9, 4, 7, 8, 9, 28].getD ci 0
def rft (ci j : Nat) : Bool := ([[0], [0], [0, 1, 2, 3, 4], [0], [0], [0], [], [0, 1], [0, 1, 2, 3, 4, 5, 6, 7], [0, 1, 2, 5, 6, 7, 15, 17, 19, 20, 21, 22, 23, 24, 25, 26]].getD ci []).contains j
def fso (G : GG) (ci : Nat) (tg : Nat → Option Nat) (fk : Nat → Int32) : List Value := (List.range (nfl ci)).map (fun j => if rft ci j = true then va_rf ((tg j).map (fun t => G.1 + t)) else .int (fk j))
def cel (G : GG) (q : Nat × Nat × (Nat → Option Nat)) (fk : Nat → Int32) : va_E :=
  if q.1 < 10 then .inr (q.1, fso G q.1 q.2.2 fk)
  else if q.1 < 12 then .inl (G.2.2.1 (q.1 - 10), q.2.1, .inl fk)
  else .inl (G.2.2.1 (q.1 - 10), q.2.1, .inr (.inr (.inr (.inr (fun j => (q.2.2 j).map (fun t => G.1 + t))))))
def wl (G : GG) (N : Nat) (sh : SH) (f : MM) : va_W := (List.range N).map (fun k => (G.1 + k, cel G (sh k) (f k)))
def u2 (f : MM) (k j : Nat) (v : Int32) : MM := fun a b => if a = k ∧ b = j then v else f a b
theorem wl_at {G : GG} {N : Nat} {sh : SH} {f : MM} {k : Nat} (h : k < N) : (wl G N sh f)[k]? = some (G.1 + k, cel G (sh k) (f k)) := by
  simp [wl, h]
theorem wl_inv {G : GG} {N : Nat} {sh : SH} {f : MM} {k : Nat} {q : Nat × va_E} (h : (wl G N sh f)[k]? = some q) : k < N ∧ q = (G.1 + k, cel G (sh k) (f k)) := by
  unfold wl at h
  rw [List.getElem?_map] at h
  cases hr : (List.range N)[k]? with
  | none => rw [hr] at h; cases h
  | some i =>
    rw [hr] at h
    obtain ⟨h1, h2⟩ := List.getElem?_eq_some_iff.mp hr
    rw [List.getElem_range] at h2
    subst h2
    simp only [List.length_range] at h1
    exact ⟨h1, (Option.some.inj h).symm⟩
theorem wl_D {G : GG} {N : Nat} {sh : SH} {f : MM} : va_D (fun q => G.1 ≤ q) (wl G N sh f) := by
  refine ⟨fun i j p q hi hj hpq => ?_, fun k q hk => ?_⟩
  · obtain ⟨-, rfl⟩ := wl_inv hi
    obtain ⟨-, rfl⟩ := wl_inv hj
    have : G.1 + i = G.1 + j := hpq
    omega
  · obtain ⟨-, rfl⟩ := wl_inv hk
    exact Nat.le_add_right _ _
theorem wl_set {G : GG} {N : Nat} {sh : SH} {f : MM} {k : Nat} (q : Nat × Nat × (Nat → Option Nat)) (fk : Nat → Int32) : (wl G N sh f).set k (G.1 + k, cel G q fk) = wl G N (va_up sh k q) (va_up f k fk) := by
  apply List.ext_getElem?
  intro i
  by_cases hi : i < N
  · rw [wl_at hi]
    by_cases hk : k = i
    · subst hk
      rw [List.getElem?_set_self (by simp [wl, hi])]
      simp [va_up]
    · rw [List.getElem?_set_ne hk, wl_at hi]
      simp [va_up, Ne.symm hk]
  · rw [List.getElem?_eq_none (by simp [wl]; omega), List.getElem?_eq_none (by simp [wl]; omega)]
theorem wl_setf {G : GG} {N : Nat} {sh : SH} {f : MM} {k : Nat} (fk : Nat → Int32) : (wl G N sh f).set k (G.1 + k, cel G (sh k) fk) = wl G N sh (va_up f k fk) := by
  rw [wl_set]
  congr 1
  funext i
  by_cases h : i = k
  · subst h; simp [va_up]
  · simp [va_up, h]
theorem va_up_u2 {f : MM} {k j : Nat} {v : Int32} : va_up f k (fun b => if b = j then v else f k b) = u2 f k j v := by
  funext a b
  by_cases h : a = k
  · subst h; simp [va_up, u2]
  · simp [va_up, u2, h]
theorem wl_push {G : GG} {N : Nat} {sh : SH} {f : MM} (q : Nat × Nat × (Nat → Option Nat)) (fk : Nat → Int32) : wl G N sh f ++ [(G.1 + N, cel G q fk)] = wl G (N + 1) (va_up sh N q) (va_up f N fk) := by
  unfold wl
  rw [List.range_succ, List.map_append]
  congr 1
  · apply List.map_congr_left
    intro k hk
    have : k ≠ N := Nat.ne_of_lt (List.mem_range.mp hk)
    simp [va_up, this]
  · simp [va_up]
/-- the locals that are known -/
def hasL (arr : Array Slot) (n : Nat) (ls : List (Option Value)) : Prop := arr.size = n ∧ lv_wf arr ∧ ∀ (i : Nat) (v : Value), ls[i]? = some (some v) → arr[i]? = some (.val v)
theorem hasL.at {arr : Array Slot} {n i : Nat} {ls : List (Option Value)} {v : Value} (h : hasL arr n ls) (hl : ls[i]? = some (some v)) : arr[i]? = some (.val v) := h.2.2 i v hl
def noC2 : List (Option Value) → Bool
  | [] => true
  | none :: t => noC2 t
  | some v :: t => v.category == 1 && noC2 t
theorem noC2_at : ∀ {ls : List (Option Value)}, noC2 ls = true → ∀ {i : Nat} {v : Value}, ls[i]? = some (some v) → v.category = 1
  | [], _, i, v, h => by simp at h
  | none :: t, hn, 0, v, h => by simp at h
  | none :: t, hn, i + 1, v, h => noC2_at (ls := t) hn (by simpa using h)
  | some w :: t, hn, 0, v, h => by
    simp only [noC2, Bool.and_eq_true, beq_iff_eq] at hn
    simp at h
    rw [← h]; exact hn.1
  | some w :: t, hn, i + 1, v, h => by
    simp only [noC2, Bool.and_eq_true, beq_iff_eq] at hn
    exact noC2_at (ls := t) hn.2 (by simpa using h)
theorem hasL.store {arr : Array Slot} {n i : Nat} {ls : List (Option Value)} {v : Value} (h : hasL arr n ls) (hi : i < n) (hc : v.category = 1) (hn : noC2 ls = true) : ∃ arr', storeLocals arr i v = some arr' ∧ hasL arr' n (ls.set i (some v)) := by
  obtain ⟨arr', e, h1⟩ := lv_store1 (l := []) ⟨h.1, h.2.1, fun q hq => by cases hq⟩ hi hc
  refine ⟨arr', e, h1.1, h1.2.1, fun j w hj => ?_⟩
  by_cases hij : i = j
  · subst hij
    have hlt : i < ls.length := by
      rcases Nat.lt_or_ge i ls.length with q | q
      · exact q
      · rw [List.getElem?_eq_none (by simpa using q)] at hj; cases hj
    rw [List.getElem?_set_self hlt] at hj
    cases hj
    exact h1.2.2 _ List.mem_cons_self
  · rw [List.getElem?_set_ne hij] at hj
    obtain ⟨arr2, e2, h2⟩ := lv_store1 (l := [(j, w)]) ⟨h.1, h.2.1, fun q hq => by rw [List.mem_singleton.mp hq]; exact h.at hj⟩ hi hc
    rw [e] at e2
    cases e2
    refine h2.2.2 (j, w) (List.mem_cons_of_mem _ (List.mem_filter.mpr ⟨List.mem_singleton.mpr rfl, ?_⟩))
    have hw := noC2_at hn hj
    simp [Ne.symm hij, hw]
theorem hasL.entry (vs : List Value) {n : Nat} (h : vs.length ≤ n) (hc : noC2 (vs.map some) = true) : hasL ((lg_sl vs ++ List.replicate (n - (lg_sl vs).length) Slot.unset).toArray) n (vs.map some ++ List.replicate (n - vs.length) none) := by
  have key : ∀ ws : List Value, noC2 (ws.map some) = true → lg_sl ws = ws.map Slot.val := by
    intro ws
    induction ws with
    | nil => intro _; rfl
    | cons w t ih =>
      intro hw
      simp only [List.map_cons, noC2, Bool.and_eq_true, beq_iff_eq] at hw
      have h2 := ih hw.2
      simp only [lg_sl] at h2 ⊢
      simp [hw.1, h2]
  have h0 := lv_entry vs (n := n) (by rw [key vs hc, List.length_map]; exact h)
  refine ⟨h0.1, h0.2.1, fun i v hv => ?_⟩
  rw [key vs hc]
  by_cases hi : i < vs.length
  · rw [List.getElem?_append_left (by simpa using hi), List.getElem?_map] at hv
    rw [List.getElem?_toArray, List.getElem?_append_left (by simpa using hi), List.getElem?_map]
    cases hvs : vs[i]? with
    | none => rw [hvs] at hv; cases hv
    | some w => rw [hvs] at hv; simp at hv; rw [hv]; rfl
  · rw [List.getElem?_append_right (by simpa using hi)] at hv
    rw [List.getElem?_replicate] at hv
    split at hv <;> cases hv
/-- the words that a method's contract stands on -/
abbrev wsM (M : MD) : List Cond := Cond.code M.2.1 M.2.2.1 M.2.2.2.1 M.2.2.2.2 :: gw
def rmL (lv mc ms : Nat) : Room := { frames := lv, cells := mc, slots := ms, locals := 64 * lv + 64 }
/-- what holds all through a method -/
def Cx (X : XT) (G : GG) (M : MD) (lv mc ms N0 : Nat) : Prop :=
  X.1.tables.exec = Jvm.exec ∧ X.2.2.2.2.2.2.2.2.2.code = M.2.2.1 ∧ X.2.2.2.2.2.2.2.2.2.maxLocals = M.2.2.2.1 ∧ X.2.2.2.2.1.vm.findClass M.1 = some X.2.2.2.2.2.1.cls ∧ (∀ w ∈ gw, w.before X.2.2.2.2.2.2.1 X.2.2.2.2.1 = true) ∧ kkG G X.2.2.2.2.1 ∧ zsG G X.2.2.2.2.1 X.2.2.2.2.1.heap ∧ X.2.2.2.2.2.2.2.2.1.locks = false ∧ X.2.2.2.2.2.2.2.2.1.sig.returnType = M.2.2.2.2 ∧ X.2.2.2.2.2.2.2.2.1.name = M.2.1.name ∧ X.2.2.2.1 = rmL lv mc ms ∧ X.2.2.2.2.1.heap.size = G.1 + N0
/-- the machine, at this frame and in this world, comes to Q -/
def Vw (X : XT) (G : GG) (nL : Nat) (cs sl : Nat) (Q : State → Prop) (N : Nat) (sh : SH) (f : MM) (pc : Nat) (ls : List (Option Value)) (st : List Value) : Prop :=
  ∀ (H : Heap) (locs : List Loc) (arr : Array Slot), va_P G.2.1 vwCl (wl G N sh f) H → H.size = G.1 + N → va_S (fun q => G.1 ≤ q) X.2.2.2.2.1.heap H locs → hasL arr nL ls →
    W X.1 X.2.1 X.2.2.1 X.2.2.2.1 X.2.2.2.2.1 X.2.2.2.2.2.1 X.2.2.2.2.2.2.1 X.2.2.2.2.2.2.2.1 X.2.2.2.2.2.2.2.2.1 X.2.2.2.2.2.2.2.2.2 H locs cs sl Q (F0 X.2.2.2.2.2.1 pc arr st)
abbrev PoT : Type := Option Value → Nat → SH → MM → Prop
def Qcm (G : GG) (post : PoT) : Array Value → State → Outcome → State → Prop := fun _ st oc t =>
  (∃ (r : Option Value) (N : Nat) (sh : SH) (f : MM), oc = .returned r ∧ post r N sh f ∧ va_P G.2.1 vwCl (wl G N sh f) t.heap ∧ t.heap.size = G.1 + N) ∧ va_F (fun q => G.1 ≤ q) st t
def Pcm (G : GG) (av : List Value) (N : Nat) (sh : SH) (f : MM) : Array Value → State → Prop := va_Pc av (fun U => va_P G.2.1 vwCl (wl G N sh f) U.heap ∧ U.heap.size = G.1 + N ∧ kkG G U ∧ zsG G U U.heap)
def Ct (G : GG) (M : MD) (lv mc ms : Nat) (av : List Value) (N : Nat) (sh : SH) (f : MM) (post : PoT) : Prop :=
  ∀ l : Launch, Met l M.2.1 (wsM M) (rmL lv mc ms) (Pcm G av N sh f) (Qcm G post) mc ms (fun q => G.1 ≤ q)
def QQ (X : XT) (G : GG) (post : PoT) (mc ms : Nat) : State → Prop := MQ X.2.2.2.2.2.2.2.1 (Qcm G post) X.2.2.2.2.2.2.1 X.2.2.2.2.1 mc ms (fun q => G.1 ≤ q)
theorem Ct.of {G : GG} {M : MD} {lv mc ms : Nat} {av : List Value} {N : Nat} {sh : SH} {f : MM} {post : PoT} (ls : List (Option Value)) (hls : av.map some ++ List.replicate (M.2.2.2.1 - av.length) none = ls) (hy : plainName M.2.1.cls = true) (ho : M.2.1.cls = M.1) (hn : av.length ≤ M.2.2.2.1) (hc : noC2 (av.map some) = true)
    (body : ∀ X : XT, Cx X G M lv mc ms N → Vw X G M.2.2.2.1 0 0 (QQ X G post mc ms) N sh f 0 ls []) : Ct G M lv mc ms av N sh f post := by
  intro l
  refine Met.ofW (cc := M.2.2.1) (maxL := M.2.2.2.1) (ret := M.2.2.2.2) hy rfl ?_
  intro p e s m args below meth c s₁ B hml hv
  obtain ⟨rfl, hP, hsz, hk, hz⟩ := hv
  have hts := atoms_spec (ws := wsM M) B.pre
  have hown : s.vm.findClass M.1 = some m.cls := by rw [← ho]; exact findClass_of_methodNamed B.named
  have hb := body (p, l, e, rmL lv mc ms, s, m, av.toArray, below, meth, c) ⟨B.exec, B.bytes, hml, hown, fun w hw => hts w (List.mem_cons_of_mem _ hw), hk, hz, B.notSynchronized, B.returns, (name_of_methodNamed B.named B.method).1, rfl, hsz⟩
  rw [lg_entry_eq]
  refine hb s.heap [] _ hP hsz va_S.rf ?_
  rw [← hls]
  exact hasL.entry av hn hc
