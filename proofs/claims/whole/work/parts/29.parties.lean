/-! THE CLASS: parties, turning, what fits -/
theorem Pt.set {h : MM} {p n l : Nat} {s t x : Int32} {st : Nat → Int32} (a : Pt h p n s l st) (hx : sS x t n) : Pt (u2 h p 2 x) p n t l st := by
  refine ⟨?_, ?_, fun w hw j hj => ?_, fun w hw => ?_⟩
  · rw [show u2 h p 2 x p 1 = h p 1 by simp [u2]]; exact a.1
  · rw [show u2 h p 2 x p 2 = x by simp [u2]]; exact hx
  · rw [u2_row (by omega)]; exact a.2.2.1 w hw j hj
  · rw [u2_row (by omega)]; exact a.2.2.2 w hw
theorem agP.u2 {f h : MM} (a : agP f h) {k j : Nat} {v : Int32} (hk : 28 ≤ k ∧ k < 36) : agP f (u2 h k j v) := fun c hc => by rw [u2_row (by omega)]; exact a c hc
set_option maxRecDepth 100000 in
set_option maxHeartbeats 4000000 in
theorem c_X2_walkSet {G : GG} {kn : Nat} {f : MM} {n L g : Nat} (N : Now f n L g) {x s : Int32} (hs : sS x s n) : RI G mX2_walkSet 6 kn [.ref (G.1 + 27), .ref (G.1 + 4), .int x] f (fun v g2 => v = setV n L g (f 89) s ∧ (0 ≤ v.toInt ∧ v.toInt ≤ 40000) ∧ agP f g2) := by
  refine Ct.of [some (.ref (G.1 + 27)), some (.ref (G.1 + 4)), some (.int x)] rfl (by decide +kernel) rfl (Nat.le_of_ble_eq_true rfl) rfl ?_
  intro X C
  have hn6 := N.hn
  refine r_aload_n (pc := 0) C dX2_walkSet_0 rfl ?_
  refine r_getr (pc := 1) C fX2_12 dX2_walkSet_1 (s_27 _) rfl rfl ?_
  refine r_aload_n (pc := 4) C dX2_walkSet_4 rfl ?_
  refine r_getr (pc := 5) C fX2_31 dX2_walkSet_5 (w_0 isW.now) rfl (w_t1 isW.now) ?_
  refine q_vVf (pc := 8) C kX2_34 dX2_walkSet_8 (c_X3_become (n := n) isP.go (isP.way isW.now) (by omega) N.hn N.pt.1) (p_0 isP.go) rfl rfl (Nat.le_of_ble_eq_true rfl) (by decide) ⟨by decide, by decide⟩ ?_
  refine r_aload_n (pc := 11) C dX2_walkSet_11 rfl ?_
  refine r_getr (pc := 12) C fX2_12 dX2_walkSet_12 (s_27 _) rfl rfl ?_
  refine r_iload_n (pc := 15) C dX2_walkSet_15 rfl ?_
  refine r_put (pc := 16) C fX2_126 ftX3_2 dX2_walkSet_16 (p_0 isP.go) rfl ?_
  have hPs : Pt (u2 (C_pbec f 28 6 n) 28 2 x) 28 n s g (f 89) := N.pt.pbec.set hs
  have hag : agP f (u2 (C_pbec f 28 6 n) 28 2 x) := (agP_pbec agP.rf hn6).u2 (by omega)
  refine r_aload_n (pc := 19) C dX2_walkSet_19 rfl ?_
  refine r_aload_n (pc := 20) C dX2_walkSet_20 rfl ?_
  refine r_aload_n (pc := 21) C dX2_walkSet_21 rfl ?_
  refine r_get (pc := 22) C fX2_103 dX2_walkSet_22 (w_0 isW.now) rfl ?_
  refine q_val (f 89 10) (by rw [hag 4 (by omega)]; exact N.ru) ?_
  refine r_aload_n (pc := 25) C dX2_walkSet_25 rfl ?_
  refine r_get (pc := 26) C fX2_106 dX2_walkSet_26 (w_0 isW.now) rfl ?_
  refine q_val (f 89 11) (by rw [hag 4 (by omega)]; exact N.mi) ?_
  refine q_vI (pc := 29) C kX2_38 dX2_walkSet_29 (c_X2_walkOn (n := n) (L := L) (g := g) (l := g) (s := s) (st := f 89) N.hn N.hL N.hg (by have := N.hL; have := N.hg; omega) hPs (N.wy.ag hag.toC) (by rw [hag 4 (by omega)]; exact N.gt) rfl rfl N.mb) (s_27 _) rfl rfl (Nat.le_of_ble_eq_true rfl) (by decide) ⟨by decide, by decide⟩ ?_
  intro v g2 hv
  refine q_iret (pc := 32) C dX2_walkSet_32 rfl ?_
  obtain ⟨rfl, ⟨l2, hl2, hP2⟩, ha2⟩ := hv
  exact ⟨rfl, hP2.lastok hl2, hag.trans ha2⟩
/-- the class's search, of all -/
def clP (v : Nat → Int32) : Nat → Nat × Int32
  | 0 => (0, 1000000000)
  | k + 1 => if v k < (clP v k).2 then (k, v k) else clP v k
theorem clP_bd {v : Nat → Int32} : ∀ k, (clP v k).1 ≤ k := by
  intro k
  induction k with
  | zero => exact Nat.le_refl _
  | succ k ih =>
    unfold clP
    split
    · exact Nat.le_succ _
    · omega
theorem so_clP {v : Nat → Int32} {N : Nat} (h : ∀ k, k < N → 0 ≤ (v k).toInt ∧ (v k).toInt ≤ 100000) : ∀ k, k < N → soI v (k + 1) = clP v (k + 1) ∧ 0 ≤ ((soI v (k + 1)).2).toInt := by
  intro k
  have z : (0 : Int32).toInt = 0 := by decide
  have b9 : (1000000000 : Int32).toInt = 1000000000 := by decide
  induction k with
  | zero =>
    intro hk
    have b := h 0 hk
    have e1 : soI v 1 = (0, v 0) := if_pos (c := (soI v 0).2 < 0) (by show (-1 : Int32) < 0; decide)
    have e2 : clP v 1 = (0, v 0) := if_pos (c := v 0 < (clP v 0).2) (by show v 0 < (1000000000 : Int32); rw [ti_lt]; omega)
    rw [e1, e2]
    exact ⟨rfl, b.1⟩
  | succ k ih =>
    intro hk
    obtain ⟨i1, i2⟩ := ih (by omega)
    have b := h (k + 1) hk
    have es : soI v (k + 1 + 1) = if (soI v (k + 1)).2 < 0 then (k + 1, v (k + 1)) else if (soI v (k + 1)).2 ≤ v (k + 1) then soI v (k + 1) else (k + 1, v (k + 1)) := rfl
    have ec : clP v (k + 1 + 1) = if v (k + 1) < (clP v (k + 1)).2 then (k + 1, v (k + 1)) else clP v (k + 1) := rfl
    rw [if_neg (by rw [ti_lt]; omega)] at es
    rw [← i1] at ec
    by_cases q : (soI v (k + 1)).2 ≤ v (k + 1)
    · rw [if_pos q] at es
      rw [if_neg (Int32.not_lt.mpr q)] at ec
      rw [es, ec]
      exact ⟨rfl, i2⟩
    · rw [if_neg q] at es
      rw [if_pos (Int32.not_le.mp q)] at ec
      rw [es, ec]
      exact ⟨rfl, b.1⟩
theorem co_all : ∀ n, n < 7 → ∀ j, j < 32 → ∀ w, w < 6 → (w < n ∧ j < cnt n) → hasB (63 - nI (2 * j)) w = hasB (coS n j) w := by decide +kernel
theorem co_sS {n j : Nat} (hn : n ≤ 6) (hj : j < cnt n) : sS (63 - nI (2 * j)) (coS n j) n := fun w hw => co_all n (by omega) j (by have := (cnt_le n hn).1; omega) w (by omega) ⟨hw, hj⟩
theorem shl_n : ∀ n, n ≤ 6 → ((1 : Int32) <<< (nI n &&& 31)) = nI (2 ^ n) := by
  intro n hn
  have : n = 0 ∨ n = 1 ∨ n = 2 ∨ n = 3 ∨ n = 4 ∨ n = 5 ∨ n = 6 := by omega
  rcases this with rfl | rfl | rfl | rfl | rfl | rfl | rfl <;> decide
theorem p2_in : ∀ n, n ≤ 6 → 1 ≤ 2 ^ n ∧ 2 ^ n ≤ 64 := by
  intro n hn
  have : n = 0 ∨ n = 1 ∨ n = 2 ∨ n = 3 ∨ n = 4 ∨ n = 5 ∨ n = 6 := by omega
  rcases this with rfl | rfl | rfl | rfl | rfl | rfl | rfl <;> decide
theorem mx3 (x y : Int32) : (if x < y then y else x) = (if x ≤ y then y else x) := by
  by_cases h : x < y
  · rw [if_pos h, if_pos (Int32.le_of_lt h)]
  · rw [if_neg h]
    by_cases h2 : x ≤ y
    · rw [if_pos h2]; exact Int32.le_antisymm h2 (Int32.not_lt.mp h)
    · rw [if_neg h2]
/-- the state of that search -/
def srP (f h : MM) (v : Nat → Int32) (k : Nat) : Prop := agC f h ∧ h 27 6 = nI (2 * (clP v k).1) ∧ h 27 5 = (clP v k).2 ∧ ∀ j, j < k → 0 ≤ (v j).toInt ∧ (v j).toInt ≤ 100000
theorem srP.yes {f h h2 : MM} {v : Nat → Int32} {k : Nat} {x : Int32} (a : srP f h v k) (b : agC f h2) (b27 : h2 27 = h 27) (hx : x = v k) (hb : 0 ≤ (v k).toInt ∧ (v k).toInt ≤ 100000) : srP f (keepF h2 x (nI (2 * k))) v (k + 1) := by
  subst hx
  obtain ⟨a1, a2, a3, a4⟩ := a
  have a5 : ∀ j, j < k + 1 → 0 ≤ (v j).toInt ∧ (v j).toInt ≤ 100000 := by
    intro j hj
    by_cases q : j = k
    · rw [q]; exact hb
    · exact a4 j (by omega)
  have ec : clP v (k + 1) = if v k < (clP v k).2 then (k, v k) else clP v k := rfl
  unfold keepF
  by_cases q : v k < (clP v k).2
  · rw [if_pos q] at ec
    rw [b27, a3, if_pos q]
    refine ⟨(b.u2 (by omega)).u2 (by omega), ?_, ?_, a5⟩
    · rw [ec]; simp [u2]
    · rw [ec]; simp [u2]
  · rw [if_neg q] at ec
    rw [b27, a3, if_neg q]
    refine ⟨b, ?_, ?_, a5⟩
    · rw [ec, b27]; exact a2
    · rw [ec, b27]; exact a3
set_option maxRecDepth 100000 in
set_option maxHeartbeats 4000000 in
theorem l_findParties {X : XT} {G : GG} {kn : Nat} {Q : State → Prop} {f : MM} {n L g P : Nat} (C : Cx X G mX2_findParties 7 0 0 (NN kn)) (N : Now f n L g) (hP : P ≤ 64) (hc : ∀ j, 2 * j < P ↔ j < cnt n) (K : ∀ h : MM, (fun k h => srP f h (paV n L g (f 89)) k) (cnt n) h → Vw X G mX2_findParties.2.2.2.1 0 0 Q (NN kn) (shF kn) h 59 [some (.ref (G.1 + 27)), some (.ref (G.1 + 4)), some (.int (nI P)), some (.int (nI (2 * (cnt n)))), none, none] []) : ∀ (m i : Nat) (h : MM), i + m = cnt n → (fun k h => srP f h (paV n L g (f 89)) k) i h → Vw X G mX2_findParties.2.2.2.1 0 0 Q (NN kn) (shF kn) h 16 [some (.ref (G.1 + 27)), some (.ref (G.1 + 4)), some (.int (nI P)), some (.int (nI (2 * i))), none, none] [] := by
  intro m
  induction m with
  | zero =>
    intro i h hm hh
    obtain rfl : cnt n = i := by omega
    have hci := hc (cnt n)
    have hn6 := N.hn
    have hc32 := (cnt_le n hn6).1
    refine r_iload_n (pc := 16) C dX2_findParties_16 rfl ?_
    refine r_iload_n (pc := 17) C dX2_findParties_17 rfl ?_
    refine q_ge (pc := 18) C (2 * (cnt n)) P 59 rfl rfl (by omega) (by omega) dX2_findParties_18 (by decide) (fun c18 => ?_) (fun c18 => ?_)
    · exact K _ hh
    · exact absurd c18 (by omega)
  | succ m ih =>
    intro i h hm hh
    have hci := hc i
    refine r_iload_n (pc := 16) C dX2_findParties_16 rfl ?_
    refine r_iload_n (pc := 17) C dX2_findParties_17 rfl ?_
    refine q_ge (pc := 18) C (2 * i) P 59 rfl rfl (by omega) (by omega) dX2_findParties_18 (by decide) (fun c18 => ?_) (fun c18 => ?_)
    · exact absurd c18 (by omega)
    · refine r_aload_n (pc := 21) C dX2_findParties_21 rfl ?_
      refine r_aload_n (pc := 22) C dX2_findParties_22 rfl ?_
      refine r_iload_n (pc := 23) C dX2_findParties_23 rfl ?_
      refine q_vI (pc := 24) C kX2_122 dX2_findParties_24 (c_X2_walkSet (s := nI (2 * i)) (N.ag hh.1) sS.rf) (s_27 _) rfl rfl (Nat.le_of_ble_eq_true rfl) (by decide) ⟨by decide, by decide⟩ ?_
      intro v24 f24 h24
      refine r_istore (pc := 27) C dX2_findParties_27 (by decide) rfl ?_
      refine r_aload_n (pc := 29) C dX2_findParties_29 rfl ?_
      refine r_aload_n (pc := 30) C dX2_findParties_30 rfl ?_
      refine r_bipush (pc := 31) C (63) dX2_findParties_31 (by decide) ?_
      refine r_iload_n (pc := 33) C dX2_findParties_33 rfl ?_
      refine r_isub (pc := 34) C dX2_findParties_34 ?_
      refine q_vI (pc := 35) C kX2_122 dX2_findParties_35 (c_X2_walkSet (s := coS n i) ((N.ag hh.1).ag h24.2.2.toC) (co_sS N.hn (by omega))) (s_27 _) rfl rfl (Nat.le_of_ble_eq_true rfl) (by decide) ⟨by decide, by decide⟩ ?_
      intro v35 f35 h35
      refine r_istore (pc := 38) C dX2_findParties_38 (by decide) rfl ?_
      refine r_aload_n (pc := 40) C dX2_findParties_40 rfl ?_
      refine r_iload (pc := 41) C dX2_findParties_41 rfl ?_
      refine r_iload (pc := 43) C dX2_findParties_43 rfl ?_
      refine r_mmax (pc := 45) C kX2_94 dX2_findParties_45 (by decide) (Nat.le_of_ble_eq_true rfl) ⟨by decide, by decide⟩ kmX2_94 ?_
      refine r_iload_n (pc := 48) C dX2_findParties_48 rfl ?_
      refine q_vIf (pc := 49) C kX2_74 dX2_findParties_49 (c_X2_keepIfLess) (s_27 _) rfl rfl (Nat.le_of_ble_eq_true rfl) (by decide) ⟨by decide, by decide⟩ ?_
      refine r_pop (pc := 52) C dX2_findParties_52 rfl ?_
      refine r_iinc (pc := 53) C (nI (2 * (i + 1))) dX2_findParties_53 rfl (nI_inc2 i) (by decide) rfl ?_
      refine r_goto (pc := 56) C 16 dX2_findParties_56 (by decide) ?_
      obtain ⟨rfl, b24, a24⟩ := h24
      obtain ⟨rfl, b35, a35⟩ := h35
      have e1 : f24 89 = f 89 := by rw [a24 89 (by omega), hh.1 89 (by omega)]
      have e0 : h 89 = f 89 := hh.1 89 (by omega)
      rw [e1] at b35
      rw [e0] at b24
      refine v_drop _ (by repeat (first | exact trivial | exact rfl | constructor)) (ih (i + 1) _ (by omega) (hh.yes ((hh.1.trans a24.toC).trans a35.toC) (by rw [a35 27 (by omega), a24 27 (by omega)]) ?_ ?_))
      · rw [mx3, e0, e1]; rfl
      · have e2 : paV n L g (f 89) i = if setV n L g (f 89) (nI (2 * i)) ≤ setV n L g (f 89) (coS n i) then setV n L g (f 89) (coS n i) else setV n L g (f 89) (nI (2 * i)) := rfl
        rw [e2]
        split <;> omega
set_option maxRecDepth 100000 in
set_option maxHeartbeats 4000000 in
theorem c_X2_findParties {G : GG} {kn : Nat} {f : MM} {n L g : Nat} (N : Now f n L g) : RV G mX2_findParties 7 kn [.ref (G.1 + 27), .ref (G.1 + 4)] f (fun g2 => srP f g2 (paV n L g (f 89)) (cnt n)) := by
  refine Ct.of [some (.ref (G.1 + 27)), some (.ref (G.1 + 4)), none, none, none, none] rfl (by decide +kernel) rfl (Nat.le_of_ble_eq_true rfl) rfl ?_
  intro X C
  have hn6 := N.hn
  have p2 := p2_in n hn6
  refine r_aload_n (pc := 0) C dX2_findParties_0 rfl ?_
  refine q_vVf (pc := 1) C kX2_64 dX2_findParties_1 (c_X2_startSearch) (s_27 _) rfl rfl (Nat.le_of_ble_eq_true rfl) (by decide) ⟨by decide, by decide⟩ ?_
  refine r_iconst (pc := 4) C (1) dX2_findParties_4 (by decide) ?_
  refine r_aload_n (pc := 5) C dX2_findParties_5 rfl ?_
  refine r_getr (pc := 6) C fX2_31 dX2_findParties_6 (w_0 isW.now) rfl (w_t1 isW.now) ?_
  refine r_get (pc := 9) C fX2_78 dX2_findParties_9 (p_0 (isP.way isW.now)) rfl ?_
  refine q_is n (by rw [u2_row (by decide), u2_row (by decide)]; exact N.pt.1) ?_
  refine r_ishl (pc := 12) C dX2_findParties_12 ?_
  refine q_is (2 ^ n) (shl_n n hn6) ?_
  refine r_istore_n (pc := 13) C dX2_findParties_13 (by decide) rfl ?_
  refine r_iconst (pc := 14) C (0) dX2_findParties_14 (by decide) ?_
  refine r_istore_n (pc := 15) C dX2_findParties_15 (by decide) rfl ?_
  refine v_drop _ (by repeat (first | exact trivial | exact rfl | constructor)) (l_findParties (f := f) (n := n) (L := L) (g := g) (P := 2 ^ n) C N p2.2 (fun j => by have := (cnt_le n hn6).2 j; omega) (fun h hh => ?_) (cnt n) 0 _ (Nat.zero_add _) ⟨(agC.rf.u2 (by omega)).u2 (by omega), by simp [u2, clP, nI_0], by simp [u2, clP], fun j hj => by omega⟩)
  refine q_vret (pc := 59) C dX2_findParties_59 rfl ?_
  exact hh
theorem Pt.back {f : MM} {p n l leg : Nat} {s mi : Int32} {st : Nat → Int32} (h : Pt f p n s l st) (hn : n ≤ 6) (hl : l ≤ 16) (hm : mi = st leg) (hb : 0 ≤ mi.toInt ∧ mi.toInt ≤ 9) : Pt (C_leave (C_walk f p n mi) p n 3 0) p n s (l + 1) (walkP n n st s leg) := by
  obtain ⟨a, b, c, d⟩ := h
  refine ⟨by rw [C_leave_p (by omega), C_walk_p (by omega)]; exact a, by rw [C_leave_p (by omega), C_walk_p (by omega)]; exact b, (hut_cR hn c b hm d hl hb).1, ?_⟩
  intro w hw
  have r3 := leave3_row (f := C_walk f p n mi) (p := p) (m := 0) hw
  have g := d w hw
  have ep : C_walk f p n mi p = f p := C_walk_p (by omega)
  have er : C_walk f p n mi (p + 2 + w) = wkF (f p 2) mi (firstS (clk f p 4) (f p 2) n) w (f (p + 2 + w)) := C_walk_row hw
  by_cases hh : hasB (f p 2) w = true
  · have k := wkF_good (s := f p 2) (m := mi) (ah := firstS (clk f p 4) (f p 2) n) g hl hb hh
    have e := er
    rw [wkF_yes hh] at e
    rw [← er] at k
    have r := r3 k.2.2.1
    rw [ep] at r
    rw [if_pos hh] at r
    unfold goodR
    rw [r.1 0 (by decide), r.1 1 (by decide), r.1 2 (by decide), r.1 3 (by decide), r.2]
    have e0 : C_walk f p n mi (p + 2 + w) 0 = f (p + 2 + w) 0 := by rw [e, upd_ne (by decide), upd_ne (by decide)]
    have e1 : C_walk f p n mi (p + 2 + w) 1 = f (p + 2 + w) 1 := by rw [e, upd_ne (by decide), upd_ne (by decide)]
    have e2 : C_walk f p n mi (p + 2 + w) 2 = f (p + 2 + w) 2 := by rw [e, upd_ne (by decide), upd_ne (by decide)]
    rw [e0, e1, e2]
    exact ⟨g.1, g.2.1, g.2.2.1, ⟨k.2.2.1, by have := k.2.2.2; omega⟩, ⟨k.1, by have := k.2.1; omega⟩⟩
  · have hf : hasB (f p 2) w = false := by simpa using hh
    have e := er
    rw [wkF_no hf] at e
    have r := r3 (by rw [e]; exact g.2.2.2.1.1)
    rw [ep] at r
    rw [if_neg hh] at r
    refine (g.mono (Nat.le_succ l)).congr (fun j hj => ?_)
    by_cases q : j = 4
    · rw [q, r.2, e]
    · rw [r.1 j q, e]
def agB (f h : MM) : Prop := ∀ k, (k < 36 ∨ 44 ≤ k) → h k = f k
theorem agB.rf {f : MM} : agB f f := fun _ _ => rfl
theorem agB.toC {f h : MM} (a : agB f h) : agC f h := fun k hk => a k (by omega)
theorem last_ok {st : Nat → Int32} {s : Int32} : ∀ {n : Nat}, (∀ w, w < n → hasB s w = true) → 0 ≤ (st 12).toInt → (lastI st s n ≤ st 12 ↔ okI st n = true) := by
  intro n
  induction n with
  | zero =>
    intro _ h
    refine ⟨fun _ => rfl, fun _ => ?_⟩
    show (0 : Int32) ≤ st 12
    rw [ti_le]
    exact h
  | succ n ih =>
    intro hs h
    have i := ih (fun w hw => hs w (by omega)) h
    unfold lastI okI
    rw [if_pos (hs n (by omega)), Bool.and_eq_true, decide_eq_true_iff, ← i]
    by_cases q : st (38 + n) ≤ lastI st s n
    · rw [if_pos q]
      rw [ti_le] at q
      rw [ti_le, ti_le]
      omega
    · rw [if_neg q]
      rw [ti_le] at q
      rw [ti_le, ti_le]
      omega
theorem hutI_snoc {n L : Nat} {s : Int32} : ∀ (i g : Nat) (st : Nat → Int32), hutI n L s (i + 1) g st = goS n L (g + i) s (hutI n L s i g st) := by
  intro i
  induction i with
  | zero => intro g st; rfl
  | succ i ih =>
    intro g st
    have := ih (g + 1) (goS n L g s st)
    rw [show g + 1 + i = g + (i + 1) by omega] at this
    exact this
set_option maxRecDepth 100000 in
set_option maxHeartbeats 4000000 in
theorem l_walkBack {X : XT} {G : GG} {kn : Nat} {Q : State → Prop} {f0 : MM} {n L : Nat} {s : Int32} {S0 : Nat → Int32} (C : Cx X G mX2_walkBack 4 0 0 (NN kn)) (hn : n ≤ 6) (hL : L ≤ 8) (K : ∀ (h : MM) (l : Nat), Pt h 36 n s l S0 → agB f0 h → Vw X G mX2_walkBack.2.2.2.1 0 0 Q (NN kn) (shF kn) h 47 [some (.ref (G.1 + 27)), none, none, none] []) : ∀ (c l : Nat) (st : Nat → Int32) (h : MM), c ≤ L → l + c ≤ 16 → Pt h 36 n s l st → Wy h L st → bkI n s c st = S0 → agB f0 h → Vw X G mX2_walkBack.2.2.2.1 0 0 Q (NN kn) (shF kn) h 15 [some (.ref (G.1 + 27)), some (.ref (G.1 + 4)), none, some (.int (nI c - 1))] [] := by
  intro c
  induction c with
  | zero =>
    intro l st h hc hlc hP hW hS ha
    cases hS
    rw [show nI 0 - 1 = -1 by decide]
    refine r_iload_n (pc := 15) C dX2_walkBack_15 rfl ?_
    refine r_if_lt (pc := 16) C 47 dX2_walkBack_16 (by decide) (fun c16 => ?_) (fun c16 => ?_)
    · exact v_drop _ (by repeat (first | exact trivial | exact rfl | constructor)) (K h l hP ha)
    · exact absurd c16 (by decide)
  | succ c ih =>
    intro l st h hc hlc hP hW hS ha
    have w := hW.2 c (by omega)
    rw [nI_pred]
    refine r_iload_n (pc := 15) C dX2_walkBack_15 rfl ?_
    refine r_if_lt (pc := 16) C 47 dX2_walkBack_16 (by decide) (fun c16 => ?_) (fun c16 => ?_)
    · exact absurd c16 (nI_pos (by omega))
    · refine r_aload_n (pc := 19) C dX2_walkBack_19 rfl ?_
      refine r_getr (pc := 20) C fX2_18 dX2_walkBack_20 (s_27 _) rfl rfl ?_
      refine r_aload_n (pc := 23) C dX2_walkBack_23 rfl ?_
      refine r_getr (pc := 24) C fX2_136 dX2_walkBack_24 (w_0 isW.now) rfl (w_t0 isW.now) ?_
      refine r_iload_n (pc := 27) C dX2_walkBack_27 rfl ?_
      refine q_iald (pc := 28) C c dX2_walkBack_28 (w_1 isW.now) (w_1n isW.now) rfl (by omega) (by decide) ?_
      refine q_vVf (pc := 29) C kX2_139 dX2_walkBack_29 (c_X3_walkLeg (n := n) isP.back hn hP.1 (hP.fit (by omega))) (p_0 isP.back) rfl rfl (Nat.le_of_ble_eq_true rfl) (by decide) ⟨by decide, by decide⟩ ?_
      refine r_aload_n (pc := 32) C dX2_walkBack_32 rfl ?_
      refine r_getr (pc := 33) C fX2_18 dX2_walkBack_33 (s_27 _) rfl rfl ?_
      refine r_iconst (pc := 36) C (3) dX2_walkBack_36 (by decide) ?_
      refine r_iconst (pc := 37) C (0) dX2_walkBack_37 (by decide) ?_
      refine q_vVf (pc := 38) C kX2_143 dX2_walkBack_38 (c_X3_leaveGate (n := n) isP.back hn (by rw [C_walk_p (by omega)]; exact hP.1)) (p_0 isP.back) rfl rfl (Nat.le_of_ble_eq_true rfl) (by decide) ⟨by decide, by decide⟩ ?_
      refine r_iinc (pc := 41) C (nI c - 1) dX2_walkBack_41 rfl (nI_m1e c) (by decide) rfl ?_
      refine r_goto (pc := 44) C 15 dX2_walkBack_44 (by decide) ?_
      exact ih (l + 1) (walkP n n st s c) _ (by omega) (by omega) (hP.back hn (by omega) w.1 w.2) ((hW.ag (fun k hk => by rw [C_leave_p (by omega), C_walk_p (by omega)])).st (fun j hj => walkP_lo (by omega))) hS (fun k hk => by rw [C_leave_p (by omega), C_walk_p (by omega)]; exact ha k hk)
set_option maxRecDepth 100000 in
set_option maxHeartbeats 4000000 in
theorem c_X2_walkBack {G : GG} {kn : Nat} {f : MM} {n L q l : Nat} {s : Int32} {st : Nat → Int32} (hn : n ≤ 6) (hL : L ≤ 8) (hq : q ≤ L) (hl : l + q ≤ 16) (hP : Pt f 28 n s l st) (hW : Wy f L st) : RI G mX2_walkBack 4 kn [.ref (G.1 + 27), .ref (G.1 + 4), .int (nI q)] f (fun v g2 => v = lastI (bkI n s q st) s n ∧ agB f g2) := by
  refine Ct.of [some (.ref (G.1 + 27)), some (.ref (G.1 + 4)), some (.int (nI q)), none] rfl (by decide +kernel) rfl (Nat.le_of_ble_eq_true rfl) rfl ?_
  intro X C
  refine r_aload_n (pc := 0) C dX2_walkBack_0 rfl ?_
  refine r_getr (pc := 1) C fX2_18 dX2_walkBack_1 (s_27 _) rfl rfl ?_
  refine r_aload_n (pc := 4) C dX2_walkBack_4 rfl ?_
  refine r_getr (pc := 5) C fX2_12 dX2_walkBack_5 (s_27 _) rfl rfl ?_
  refine q_vVf (pc := 8) C kX2_34 dX2_walkBack_8 (c_X3_become (n := n) isP.back isP.go (by omega) hn hP.1) (p_0 isP.back) rfl rfl (Nat.le_of_ble_eq_true rfl) (by decide) ⟨by decide, by decide⟩ ?_
  refine r_iload_n (pc := 11) C dX2_walkBack_11 rfl ?_
  refine r_iconst (pc := 12) C (1) dX2_walkBack_12 (by decide) ?_
  refine r_isub (pc := 13) C dX2_walkBack_13 ?_
  refine r_istore_n (pc := 14) C dX2_walkBack_14 (by decide) rfl ?_
  refine v_drop _ (by repeat (first | exact trivial | exact rfl | constructor)) (l_walkBack (f0 := f) (n := n) (L := L) (s := s) C hn hL (fun h l2 hP2 ha => ?_) q l st _ hq hl hP.pbec (hW.ag (fun k hk => C_pbec_p (by omega) (by omega))) rfl (fun k hk => C_pbec_p (by omega) (by omega)))
  refine r_aload_n (pc := 47) C dX2_walkBack_47 rfl ?_
  refine r_getr (pc := 48) C fX2_18 dX2_walkBack_48 (s_27 _) rfl rfl ?_
  refine q_vIf (pc := 51) C kX2_53 dX2_walkBack_51 (c_X3_lastMinute isP.back hn hP2.1) (p_0 isP.back) rfl rfl (Nat.le_of_ble_eq_true rfl) (by decide) ⟨by decide, by decide⟩ ?_
  refine q_iret (pc := 54) C dX2_walkBack_54 rfl ?_
  exact ⟨hP2.last, ha⟩
set_option maxRecDepth 100000 in
set_option maxHeartbeats 4000000 in
theorem l_lastTurn {X : XT} {G : GG} {kn : Nat} {Q : State → Prop} {f : MM} {n L g : Nat} (C : Cx X G mX2_lastTurn 5 0 0 (NN kn)) (N : Now f n L g) (hsu : 0 ≤ (f 89 12).toInt) (K : ∀ h : MM, agC f h → Vw X G mX2_lastTurn.2.2.2.1 0 0 Q (NN kn) (shF kn) h 73 [some (.ref (G.1 + 27)), none, some (.int (tuI n L g (f 89) (L + 1 - g))), none] []) : ∀ (m i : Nat) (h : MM), g + i + m = L + 1 → agC f h → (i ≤ L - g → Pt h 28 n (allI n) (g + i) (hutI n L (allI n) i g (f 89))) → Vw X G mX2_lastTurn.2.2.2.1 0 0 Q (NN kn) (shF kn) h 19 [some (.ref (G.1 + 27)), some (.ref (G.1 + 4)), some (.int (tuI n L g (f 89) i)), some (.int (nI (g + i)))] [] := by
  intro m
  induction m with
  | zero =>
    intro i h hm hag hP
    have hL := N.hL
    have e4 : h 4 = f 4 := hag 4 (by omega)
    obtain rfl : L + 1 - g = i := by omega
    refine r_iload_n (pc := 19) C dX2_lastTurn_19 rfl ?_
    refine r_aload_n (pc := 20) C dX2_lastTurn_20 rfl ?_
    refine r_get (pc := 21) C fX2_46 dX2_lastTurn_21 (w_0 isW.now) rfl ?_
    refine q_gt (pc := 24) C (g + (L + 1 - g)) L 73 rfl (by rw [e4]; exact N.wy.1) (by omega) (by omega) dX2_lastTurn_24 (by decide) (fun c24 => ?_) (fun c24 => ?_)
    · exact v_drop _ (by repeat (first | exact trivial | exact rfl | constructor)) (K h hag)
    · exact absurd c24 (by omega)
  | succ m ih =>
    intro i h hm hag hP
    have hL := N.hL
    have hn6 := N.hn
    have e4 : h 4 = f 4 := hag 4 (by omega)
    have e89 : h 89 = f 89 := hag 89 (by omega)
    have hP1 := hP (by omega)
    have hW1 : Wy h L (hutI n L (allI n) i g (f 89)) := (N.wy.ag hag).st (fun j hj => hutI_lo (by omega) (by omega) _ _ _)
    refine r_iload_n (pc := 19) C dX2_lastTurn_19 rfl ?_
    refine r_aload_n (pc := 20) C dX2_lastTurn_20 rfl ?_
    refine r_get (pc := 21) C fX2_46 dX2_lastTurn_21 (w_0 isW.now) rfl ?_
    refine q_gt (pc := 24) C (g + i) L 73 rfl (by rw [e4]; exact N.wy.1) (by omega) (by omega) dX2_lastTurn_24 (by decide) (fun c24 => ?_) (fun c24 => ?_)
    · exact absurd c24 (by omega)
    · refine r_aload_n (pc := 27) C dX2_lastTurn_27 rfl ?_
      refine r_aload_n (pc := 28) C dX2_lastTurn_28 rfl ?_
      refine r_iload_n (pc := 29) C dX2_lastTurn_29 rfl ?_
      refine q_vI (pc := 30) C kX2_130 dX2_lastTurn_30 (c_X2_walkBack (n := n) (L := L) (q := g + i) (l := g + i) hn6 hL (by omega) (by omega) hP1 hW1) (s_27 _) rfl rfl (Nat.le_of_ble_eq_true rfl) (by decide) ⟨by decide, by decide⟩ ?_
      intro v30 f30 h30
      obtain ⟨rfl, a30⟩ := h30
      have hB : lastI (bkI n (allI n) (g + i) (hutI n L (allI n) i g (f 89))) (allI n) n ≤ f 89 12 ↔ tuB n L g (f 89) (g + i) = true := by
        have q := last_ok (st := bkI n (allI n) (g + i) (hutI n L (allI n) i g (f 89))) (s := allI n) (n := n) (fun w hw => all_has hn6 hw) (by rw [bkI_lo (by decide), hutI_lo (by decide) (by decide)]; exact hsu)
        rw [bkI_lo (by decide), hutI_lo (by decide) (by decide)] at q
        rw [q]
        unfold tuB
        rw [show g + i - g = i by omega]
      have e4b : f30 4 = f 4 := by rw [a30 4 (by omega), e4]
      have hP3 : Pt f30 28 n (allI n) (g + i) (hutI n L (allI n) i g (f 89)) := hP1.congr (fun k h1 h2 => a30 k (by omega)) hn6
      have hW3 : Wy f30 L (hutI n L (allI n) i g (f 89)) := hW1.ag a30.toC
      have et : tuI n L g (f 89) (i + 1) = if tuB n L g (f 89) (g + i) = true then nI (g + i) else tuI n L g (f 89) i := rfl
      refine r_aload_n (pc := 33) C dX2_lastTurn_33 rfl ?_
      refine r_get (pc := 34) C fX2_133 dX2_lastTurn_34 (w_0 isW.now) rfl ?_
      refine q_val (f 89 12) (by rw [e4b]; exact N.su) ?_
      refine r_icmp_gt (pc := 37) C 42 dX2_lastTurn_37 (by decide) (fun c37 => ?_) (fun c37 => ?_)
      · refine r_iload_n (pc := 42) C dX2_lastTurn_42 rfl ?_
        refine r_aload_n (pc := 43) C dX2_lastTurn_43 rfl ?_
        refine r_get (pc := 44) C fX2_46 dX2_lastTurn_44 (w_0 isW.now) rfl ?_
        refine q_ge (pc := 47) C (g + i) L 67 rfl (by rw [e4b]; exact N.wy.1) (by omega) (by omega) dX2_lastTurn_47 (by decide) (fun c47 => ?_) (fun c47 => ?_)
        · refine r_iinc (pc := 67) C (nI (g + (i + 1))) dX2_lastTurn_67 rfl (by rw [nI_inc, Nat.add_assoc]) (by decide) rfl ?_
          refine r_goto (pc := 70) C 19 dX2_lastTurn_70 (by decide) ?_
          rw [if_neg (fun q => absurd (hB.mpr q) (Int32.not_le.mpr c37))] at et
          have hag2 : agC f f30 := fun k hk => by rw [a30 k (by omega)]; exact hag k hk
          have k := ih (i + 1) f30 (by omega) hag2 (fun q => by omega)
          rw [et] at k
          exact k
        · refine r_aload_n (pc := 50) C dX2_lastTurn_50 rfl ?_
          refine r_aload_n (pc := 51) C dX2_lastTurn_51 rfl ?_
          refine r_getr (pc := 52) C fX2_12 dX2_lastTurn_52 (s_27 _) rfl rfl ?_
          refine r_iload_n (pc := 55) C dX2_lastTurn_55 rfl ?_
          refine r_aload_n (pc := 56) C dX2_lastTurn_56 rfl ?_
          refine r_get (pc := 57) C fX2_103 dX2_lastTurn_57 (w_0 isW.now) rfl ?_
          refine q_val (f 89 10) (by rw [e4b]; exact N.ru) ?_
          refine r_aload_n (pc := 60) C dX2_lastTurn_60 rfl ?_
          refine r_get (pc := 61) C fX2_106 dX2_lastTurn_61 (w_0 isW.now) rfl ?_
          refine q_val (f 89 11) (by rw [e4b]; exact N.mi) ?_
          refine q_vVf (pc := 64) C kX2_49 dX2_lastTurn_64 (c_X7_move (n := n) (L := L) (leg := g + i) isW.now isP.go hn6 (by omega) hL hP3.1 hW3.1 (hP3.fit (by omega))) (w_0 isW.now) rfl rfl (Nat.le_of_ble_eq_true rfl) (by decide) ⟨by decide, by decide⟩ ?_
          refine r_iinc (pc := 67) C (nI (g + (i + 1))) dX2_lastTurn_67 rfl (by rw [nI_inc, Nat.add_assoc]) (by decide) rfl ?_
          refine r_goto (pc := 70) C 19 dX2_lastTurn_70 (by decide) ?_
          rw [if_neg (fun q => absurd (hB.mpr q) (Int32.not_le.mpr c37))] at et
          have hag2 : agC f (C_move f30 4 28 n L (g + i) (f 89 10) (f 89 11)) := fun k hk => by rw [C_move_p (by omega), a30 k (by omega)]; exact hag k hk
          have hP4 : Pt (C_move f30 4 28 n L (g + i) (f 89 10) (f 89 11)) 28 n (allI n) (g + (i + 1)) (hutI n L (allI n) (i + 1) g (f 89)) := by
            have q := hP3.move (ru := f 89 10) (mi := f 89 11) hW3 hn6 (by omega) c47 (hutI_lo (by decide) (by decide) _ _ _) (hutI_lo (by decide) (by decide) _ _ _) N.mb
            rw [hutI_snoc]
            exact q
          have k := ih (i + 1) _ (by omega) hag2 (fun _ => hP4)
          rw [et] at k
          exact k
      · refine r_iload_n (pc := 40) C dX2_lastTurn_40 rfl ?_
        refine r_istore_n (pc := 41) C dX2_lastTurn_41 (by decide) rfl ?_
        refine r_iload_n (pc := 42) C dX2_lastTurn_42 rfl ?_
        refine r_aload_n (pc := 43) C dX2_lastTurn_43 rfl ?_
        refine r_get (pc := 44) C fX2_46 dX2_lastTurn_44 (w_0 isW.now) rfl ?_
        refine q_ge (pc := 47) C (g + i) L 67 rfl (by rw [e4b]; exact N.wy.1) (by omega) (by omega) dX2_lastTurn_47 (by decide) (fun c47 => ?_) (fun c47 => ?_)
        · refine r_iinc (pc := 67) C (nI (g + (i + 1))) dX2_lastTurn_67 rfl (by rw [nI_inc, Nat.add_assoc]) (by decide) rfl ?_
          refine r_goto (pc := 70) C 19 dX2_lastTurn_70 (by decide) ?_
          rw [if_pos (hB.mp (Int32.not_lt.mp c37))] at et
          have hag2 : agC f f30 := fun k hk => by rw [a30 k (by omega)]; exact hag k hk
          have k := ih (i + 1) f30 (by omega) hag2 (fun q => by omega)
          rw [et] at k
          exact k
        · refine r_aload_n (pc := 50) C dX2_lastTurn_50 rfl ?_
          refine r_aload_n (pc := 51) C dX2_lastTurn_51 rfl ?_
          refine r_getr (pc := 52) C fX2_12 dX2_lastTurn_52 (s_27 _) rfl rfl ?_
          refine r_iload_n (pc := 55) C dX2_lastTurn_55 rfl ?_
          refine r_aload_n (pc := 56) C dX2_lastTurn_56 rfl ?_
          refine r_get (pc := 57) C fX2_103 dX2_lastTurn_57 (w_0 isW.now) rfl ?_
          refine q_val (f 89 10) (by rw [e4b]; exact N.ru) ?_
          refine r_aload_n (pc := 60) C dX2_lastTurn_60 rfl ?_
          refine r_get (pc := 61) C fX2_106 dX2_lastTurn_61 (w_0 isW.now) rfl ?_
          refine q_val (f 89 11) (by rw [e4b]; exact N.mi) ?_
          refine q_vVf (pc := 64) C kX2_49 dX2_lastTurn_64 (c_X7_move (n := n) (L := L) (leg := g + i) isW.now isP.go hn6 (by omega) hL hP3.1 hW3.1 (hP3.fit (by omega))) (w_0 isW.now) rfl rfl (Nat.le_of_ble_eq_true rfl) (by decide) ⟨by decide, by decide⟩ ?_
          refine r_iinc (pc := 67) C (nI (g + (i + 1))) dX2_lastTurn_67 rfl (by rw [nI_inc, Nat.add_assoc]) (by decide) rfl ?_
          refine r_goto (pc := 70) C 19 dX2_lastTurn_70 (by decide) ?_
          rw [if_pos (hB.mp (Int32.not_lt.mp c37))] at et
          have hag2 : agC f (C_move f30 4 28 n L (g + i) (f 89 10) (f 89 11)) := fun k hk => by rw [C_move_p (by omega), a30 k (by omega)]; exact hag k hk
          have hP4 : Pt (C_move f30 4 28 n L (g + i) (f 89 10) (f 89 11)) 28 n (allI n) (g + (i + 1)) (hutI n L (allI n) (i + 1) g (f 89)) := by
            have q := hP3.move (ru := f 89 10) (mi := f 89 11) hW3 hn6 (by omega) c47 (hutI_lo (by decide) (by decide) _ _ _) (hutI_lo (by decide) (by decide) _ _ _) N.mb
            rw [hutI_snoc]
            exact q
          have k := ih (i + 1) _ (by omega) hag2 (fun _ => hP4)
          rw [et] at k
          exact k
set_option maxRecDepth 100000 in
set_option maxHeartbeats 4000000 in
theorem c_X2_lastTurn {G : GG} {kn : Nat} {f : MM} {n L g : Nat} (N : Now f n L g) (hsu : 0 ≤ (f 89 12).toInt) : RI G mX2_lastTurn 5 kn [.ref (G.1 + 27), .ref (G.1 + 4)] f (fun v g2 => v = tuI n L g (f 89) (L + 1 - g) ∧ agC f g2) := by
  refine Ct.of [some (.ref (G.1 + 27)), some (.ref (G.1 + 4)), none, none] rfl (by decide +kernel) rfl (Nat.le_of_ble_eq_true rfl) rfl ?_
  intro X C
  have hn6 := N.hn
  have hL := N.hL
  have hg := N.hg
  refine r_ldc (pc := 0) C (-1000000) kX2_129 dX2_lastTurn_0 ?_
  refine r_istore_n (pc := 2) C dX2_lastTurn_2 (by decide) rfl ?_
  refine r_aload_n (pc := 3) C dX2_lastTurn_3 rfl ?_
  refine r_getr (pc := 4) C fX2_12 dX2_lastTurn_4 (s_27 _) rfl rfl ?_
  refine r_aload_n (pc := 7) C dX2_lastTurn_7 rfl ?_
  refine r_getr (pc := 8) C fX2_31 dX2_lastTurn_8 (w_0 isW.now) rfl (w_t1 isW.now) ?_
  refine q_vVf (pc := 11) C kX2_34 dX2_lastTurn_11 (c_X3_become (n := n) isP.go (isP.way isW.now) (by omega) N.hn N.pt.1) (p_0 isP.go) rfl rfl (Nat.le_of_ble_eq_true rfl) (by decide) ⟨by decide, by decide⟩ ?_
  refine r_aload_n (pc := 14) C dX2_lastTurn_14 rfl ?_
  refine r_get (pc := 15) C fX2_42 dX2_lastTurn_15 (w_0 isW.now) rfl ?_
  refine q_is (g + 0) (by rw [C_pbec_p (by decide) (by omega)]; exact N.gt) ?_
  refine r_istore_n (pc := 18) C dX2_lastTurn_18 (by decide) rfl ?_
  refine v_drop _ (by repeat (first | exact trivial | exact rfl | constructor)) (l_lastTurn (f := f) (n := n) (L := L) (g := g) C N hsu (fun h hag => ?_) (L + 1 - g) 0 _ (by omega) (fun k hk => C_pbec_p (by omega) (by omega)) (fun _ => N.pt.pbec))
  refine r_iload_n (pc := 73) C dX2_lastTurn_73 rfl ?_
  refine q_iret (pc := 74) C dX2_lastTurn_74 rfl ?_
  exact ⟨rfl, hag⟩
