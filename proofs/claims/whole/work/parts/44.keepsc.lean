/-! CLASS AND REFERENCE STAY SIDE BY SIDE: ways come back, are read -/
/-- another way stands where the way stood -/
theorem Inv.other {kn : Nat} {f h : MM} (I : Inv kn f) (e1 : ∀ k, ¬ (4 ≤ k ∧ k < 14) → k ≠ 25 → k ≠ 85 → k ≠ 89 → h k = f k) (e85 : ∀ b, b ≠ 18 → h 85 b = f 85 b) (t1 : h 4 2 = 1) (t2 : f 85 4 = 1) (hN : INow h) (hA : IAct kn h) : Inv kn h := by
  have t3 : h 85 4 = 1 := (e85 4 (by decide)).trans t2
  refine ⟨I.row.cg (fun k hk => e1 k (by omega) (by omega) (by omega) (by omega)), ?_, I.tap.cg (e1 3 (by omega) (by omega) (by omega) (by omega)) (e1 91 (by omega) (by omega) (by omega) (by omega)) (by rw [e1 2 (by omega) (by omega) (by omega) (by omega)]) (e85 8 (by omega)), ?_, hN, ⟨t1.trans t3.symm, Or.inr t1⟩, I.spa.cg (fun k k1 k2 => e1 k (by omega) (by omega) (by omega) (by omega)), I.img.cg (fun k k1 k2 => e1 k (by omega) (by omega) (by omega) (by omega)) (e1 99 (by omega) (by omega) (by omega) (by omega)) (e1 100 (by omega) (by omega) (by omega) (by omega)) (Or.inr t3), hA, I.ask.cg (e1 47 (by omega) (by omega) (by omega) (by omega)) (e1 48 (by omega) (by omega) (by omega) (by omega)) (e1 101 (by omega) (by omega) (by omega) (by omega)) (e85 27 (by omega)), fun z => by rw [t3] at z; exact absurd z (by decide)⟩
  · rw [e1 0 (by omega) (by omega) (by omega) (by omega), e85 3 (by omega)]; exact I.fin
  · rw [e1 2 (by omega) (by omega) (by omega) (by omega), e85 9 (by omega)]; exact I.flt
theorem s_undo {kn : Nat} {f g2 : MM} {a q : Nat} (I : Inv kn f) (A : ActI kn f a q) (P : PoUndo f a q g2) : g2 85 18 = nI a ∧ (R_undo g2 a).1 = (R_undo f a).1 ∧ Inv kn (R_undo g2 a).2 := by
  by_cases a0 : a = 0
  · have e := P.1 a0
    subst e
    refine ⟨A.2.2.1.2.2, rfl, ?_⟩
    unfold R_undo
    rw [if_pos a0]
    exact I
  · obtain ⟨w2, n, L, g, w, rfl⟩ := P.2 (by omega)
    have A0 := A
    obtain ⟨b1, b2, b3, b4, b5⟩ := A
    have hn6 := w.1.1
    generalize hp : ((q + 24 - 1) % 24) = p at w w2
    have c1 : ∀ k, ¬ (4 ≤ k ∧ k < 14) → k ≠ 25 → u2 (u2 (C_wbec f 4 (102 + 10 * p) n) 25 1 (nI p)) 25 2 (nI (a - 1)) k = f k := fun k k1 k2 => by rw [u2_row k2, u2_row k2, C_wbec_ne hn6 (by omega)]
    have c25 : u2 (u2 (C_wbec f 4 (102 + 10 * p) n) 25 1 (nI p)) 25 2 (nI (a - 1)) 25 1 = nI p ∧ u2 (u2 (C_wbec f 4 (102 + 10 * p) n) 25 1 (nI p)) 25 2 (nI (a - 1)) 25 2 = nI (a - 1) := ⟨by rw [u2_nb (by decide), u2_at], u2_at⟩
    have wb : WayIs (u2 (u2 (C_wbec f 4 (102 + 10 * p) n) 25 1 (nI p)) 25 2 (nI (a - 1))) 4 (fun t => f 93 (56 * (a - 1) + t)) n L g := (w.bec (o := 4) (by omega)).mv (fun k k1 k2 => by rw [u2_row (by omega), u2_row (by omega)]) (fun _ _ => rfl)
    have t4 : u2 (u2 (C_wbec f 4 (102 + 10 * p) n) 25 1 (nI p)) 25 2 (nI (a - 1)) 4 2 = 1 := by rw [u2_row (by decide), u2_row (by decide), C_wbec_o (by decide)]; exact w2
    generalize hG : u2 (u2 (C_wbec f 4 (102 + 10 * p) n) 25 1 (nI p)) 25 2 (nI (a - 1)) = G2 at c1 c25 wb t4
    refine ⟨by rw [c1 85 (by omega) (by omega)]; exact b3.2.2, ?_, ?_⟩
    · unfold R_undo
      rw [if_neg a0, if_neg a0]
    · unfold R_undo
      rw [if_neg a0]
      show Inv kn (fillM (u2 G2 85 18 (nI (a - 1))) 89 0 56 (fun t => G2 93 (56 * (a - 1) + t)))
      have gk : ∀ k, k ≠ 85 → k ≠ 89 → fillM (u2 G2 85 18 (nI (a - 1))) 89 0 56 (fun t => G2 93 (56 * (a - 1) + t)) k = G2 k := fun k k1 k2 => by rw [fillM_row k2, u2_row k1]
      have e93 : G2 93 = f 93 := c1 93 (by omega) (by omega)
      refine I.other (fun k k1 k2 k3 k4 => by rw [gk k k3 k4, c1 k k1 k2]) (fun b hb => by rw [fillM_row (by decide), u2_nb hb, c1 85 (by omega) (by omega)]) (by rw [gk 4 (by omega) (by omega)]; exact t4) (b4 (by omega)) ⟨n, L, g, wb.mv (fun k k1 k2 => gk k (by omega) (by omega)) (fun t ht => ?_)⟩ ⟨a - 1, p, ⟨by omega, by omega, b1.2.2⟩, fun z => ?_, ⟨?_, ?_, ?_⟩, fun _ => ?_, fun i hi => ?_⟩
      · rw [fillM_in (by omega) (by omega), Nat.sub_zero, e93]
      · have := b2 z
        omega
      · rw [gk 25 (by omega) (by omega)]; exact c25.1
      · rw [gk 25 (by omega) (by omega)]; exact c25.2
      · rw [fillM_row (by decide), u2_at]
      · rw [fillM_row (by decide), u2_nb (by decide), c1 85 (by omega) (by omega)]; exact b4 (by omega)
      · have er : rg p (a - 1) i = rg q a i := by unfold rg; omega
        obtain ⟨d1, n2, L2, g2, w3⟩ := b5 i (by omega)
        rw [er]
        have eb : ∀ k, 102 ≤ k → fillM (u2 G2 85 18 (nI (a - 1))) 89 0 56 (fun t => G2 93 (56 * (a - 1) + t)) k = f k := fun k hk => by rw [gk k (by omega) (by omega), c1 k (by omega) (by omega)]
        refine ⟨by rw [eb _ (by omega)]; exact d1, n2, L2, g2, w3.mv (fun k k1 k2 => eb k (by omega)) (fun t ht => ?_)⟩
        rw [gk 93 (by omega) (by omega), e93]
theorem s_image {kn : Nat} {f : MM} {n L g : Nat} (I : Inv kn f) (W : WayIs f 4 (f 89) n L g) {a : Int32} : (R_image (CR_image f n a) a).1 = (R_image f a).1 ∧ Inv kn (R_image (CR_image f n a) a).2 := by
  unfold R_image CR_image
  by_cases h1 : inR a 2 = true
  · simp only [if_pos h1]
    obtain ⟨j, hj, rfl⟩ := inR_of h1
    rw [tn_nI (by omega)]
    by_cases h2 : f 85 4 = 0
    · simp only [if_pos h2]
      exact ⟨trivial, I⟩
    · simp only [if_neg h2]
      have hn6 := W.1.1
      have c1 : ∀ k, ¬ (65 + 10 * j ≤ k ∧ k < 65 + 10 * j + 10) → C_wbec f (65 + 10 * j) 4 n k = f k := fun k k1 => C_wbec_ne hn6 (by omega)
      have wb := W.bec (o := 65 + 10 * j) (by omega)
      have t1 : f 4 2 = 1 := by
        rcases I.told.2 with z | z
        · rw [I.told.1] at z; exact absurd z h2
        · exact z
      have t2 : f 85 4 = 1 := I.told.1.symm.trans t1
      have w2 : C_wbec f (65 + 10 * j) 4 n (65 + 10 * j) 2 = 1 := by rw [C_wbec_o (by decide)]; exact t1
      generalize C_wbec f (65 + 10 * j) 4 n = G2 at c1 wb w2
      rw [c1 85 (by omega), if_neg h2]
      refine ⟨rfl, ?_⟩
      show Inv kn (u2 (fillM G2 100 (56 * j) 56 (G2 89)) 99 j 1)
      have gk : ∀ k, k ≠ 99 → k ≠ 100 → u2 (fillM G2 100 (56 * j) 56 (G2 89)) 99 j 1 k = G2 k := fun k k1 k2 => by rw [u2_row k1, fillM_row k2]
      have E : ∀ k, k < 65 ∨ 85 ≤ k → k ≠ 99 → k ≠ 100 → u2 (fillM G2 100 (56 * j) 56 (G2 89)) 99 j 1 k = f k := fun k k0 k1 k2 => by rw [gk k k1 k2, c1 k (by omega)]
      refine ⟨I.row.cg (fun k hk => E k (by omega) (by omega) (by omega)), ?_, I.tap.cg (E 3 (by omega) (by omega) (by omega)) (E 91 (by omega) (by omega) (by omega)) (by rw [E 2 (by omega) (by omega) (by omega)]) (by rw [E 85 (by omega) (by omega) (by omega)]), ?_, I.now.cg (fun k k1 k2 => E k (by omega) (by omega) (by omega)) (fun t _ => by rw [E 89 (by omega) (by omega) (by omega)]), I.told.cg (by rw [E 4 (by omega) (by omega) (by omega)]) (by rw [E 85 (by omega) (by omega) (by omega)]), I.spa.cg (fun k k1 k2 => E k (by omega) (by omega) (by omega)), fun k hk => ?_, I.act.cg (fun k hk => E k (by omega) (by omega) (by omega)) (E 25 (by omega) (by omega) (by omega)) (E 93 (by omega) (by omega) (by omega)) (by rw [E 85 (by omega) (by omega) (by omega)]) (by rw [E 85 (by omega) (by omega) (by omega)]), I.ask.cg (E 47 (by omega) (by omega) (by omega)) (E 48 (by omega) (by omega) (by omega)) (E 101 (by omega) (by omega) (by omega)) (by rw [E 85 (by omega) (by omega) (by omega)]), I.zero.cg (E 6 (by omega) (by omega) (by omega)) (by rw [E 85 (by omega) (by omega) (by omega)])⟩
      · rw [E 0 (by omega) (by omega) (by omega), E 85 (by omega) (by omega) (by omega)]; exact I.fin
      · rw [E 2 (by omega) (by omega) (by omega), E 85 (by omega) (by omega) (by omega)]; exact I.flt
      · rw [E 85 (by omega) (by omega) (by omega)]
        by_cases kj : k = j
        · subst kj
          refine ⟨by rw [u2_at, gk _ (by omega) (by omega)]; exact w2.symm, Or.inr ⟨u2_at, t2, n, L, g, wb.mv (fun k k1 k2 => gk k (by omega) (by omega)) (fun t ht => ?_)⟩⟩
          rw [u2_row (by decide), fillM_in (by omega) (by omega), c1 89 (by omega)]
          exact congrArg (f 89) (by omega)
        · obtain ⟨d1, d2⟩ := I.img k hk
          have e99 : u2 (fillM G2 100 (56 * j) 56 (G2 89)) 99 j 1 99 k = f 99 k := by rw [u2_nb kj, fillM_row (by decide), c1 99 (by omega)]
          have eb : ∀ t, 65 + 10 * k ≤ t → t < 65 + 10 * k + 10 → u2 (fillM G2 100 (56 * j) 56 (G2 89)) 99 j 1 t = f t := fun t t1 t2 => by rw [gk t (by omega) (by omega), c1 t (by omega)]
          rw [e99, eb _ (Nat.le_refl _) (by omega)]
          refine ⟨d1, ?_⟩
          rcases d2 with d2 | ⟨d2, d3, n2, L2, g3, w3⟩
          · exact Or.inl d2
          · refine Or.inr ⟨d2, d3, n2, L2, g3, w3.mv eb (fun t ht => ?_)⟩
            rw [u2_row (by decide), fillM_out (by omega), c1 100 (by omega)]
  · simp only [if_neg h1]
    exact ⟨trivial, I⟩
theorem s_restore {kn : Nat} {f g2 : MM} (I : Inv kn f) {a : Int32} (P : PoRest f a g2) : (R_restore g2 a).1 = (R_restore f a).1 ∧ Inv kn (R_restore g2 a).2 := by
  unfold PoRest at P
  by_cases h1 : inR a 2 = true
  · rw [if_pos h1] at P
    obtain ⟨j, hj, rfl⟩ := inR_of h1
    rw [tn_nI (by omega)] at P
    by_cases h2 : f 99 j = 0
    · rw [if_pos h2] at P
      subst P
      refine ⟨rfl, ?_⟩
      unfold R_restore
      rw [if_pos h1, tn_nI (by omega), if_pos h2]
      exact I
    · rw [if_neg h2] at P
      obtain ⟨n, L, g, w, rfl⟩ := P
      have hn6 := w.1.1
      have d := I.img j hj
      have i1 : f 99 j = 1 ∧ f 85 4 = 1 := by
        rcases d.2 with z | z
        · exact absurd z h2
        · exact ⟨z.1, z.2.1⟩
      have c1 : ∀ k, ¬ (4 ≤ k ∧ k < 14) → k ≠ 25 → u2 (C_wbec f 4 (65 + 10 * j) n) 25 2 0 k = f k := fun k k1 k2 => by rw [u2_row k2, C_wbec_ne hn6 (by omega)]
      have c25 : u2 (C_wbec f 4 (65 + 10 * j) n) 25 2 0 25 1 = f 25 1 ∧ u2 (C_wbec f 4 (65 + 10 * j) n) 25 2 0 25 2 = 0 := ⟨by rw [u2_nb (by decide), C_wbec_ne hn6 (by omega)], u2_at⟩
      have wb : WayIs (u2 (C_wbec f 4 (65 + 10 * j) n) 25 2 0) 4 (fun t => f 100 (56 * j + t)) n L g := (w.bec (o := 4) (by omega)).mv (fun k k1 k2 => by rw [u2_row (by omega)]) (fun _ _ => rfl)
      have t4 : u2 (C_wbec f 4 (65 + 10 * j) n) 25 2 0 4 2 = 1 := by rw [u2_row (by decide), C_wbec_o (by decide), ← d.1]; exact i1.1
      generalize u2 (C_wbec f 4 (65 + 10 * j) n) 25 2 0 = G2 at c1 c25 wb t4
      unfold R_restore
      rw [if_pos h1, if_pos h1, tn_nI (by omega), c1 99 (by omega) (by omega), if_neg h2, if_neg h2]
      refine ⟨rfl, ?_⟩
      show Inv kn (u2 (fillM G2 89 0 56 (fun t => G2 100 (56 * j + t))) 85 18 0)
      have gk : ∀ k, k ≠ 85 → k ≠ 89 → u2 (fillM G2 89 0 56 (fun t => G2 100 (56 * j + t))) 85 18 0 k = G2 k := fun k k1 k2 => by rw [u2_row k1, fillM_row k2]
      refine I.other (fun k k1 k2 k3 k4 => by rw [gk k k3 k4, c1 k k1 k2]) (fun b hb => by rw [u2_nb hb, fillM_row (by decide), c1 85 (by omega) (by omega)]) (by rw [gk 4 (by omega) (by omega)]; exact t4) i1.2 ⟨n, L, g, wb.mv (fun k k1 k2 => gk k (by omega) (by omega)) (fun t ht => ?_)⟩ (I.act.no (by rw [gk 25 (by omega) (by omega)]; exact c25.1) (by rw [gk 25 (by omega) (by omega)]; exact c25.2) u2_at)
      rw [u2_row (by decide), fillM_in (by omega) (by omega), Nat.sub_zero, c1 100 (by omega) (by omega)]
  · rw [if_neg h1] at P
    subst P
    refine ⟨rfl, ?_⟩
    unfold R_restore
    rw [if_neg h1]
    exact I
theorem s_fits {kn : Nat} {f g2 h : MM} {n L g : Nat} {a b c d e v w : Int32} (I : Inv kn f) (hv : v = (R_fits f n L g a b c d e).1) (hc : CR_fits f (R_fits f n L g a b c d e).2 g2) (hw : w = (R_fits g2 n L g a b c d e).1) (hh : match (R_fits g2 n L g a b c d e).2 with | none => h = g2 | some s => agF (u2 g2 85 3 s) h) : v = w ∧ Inv kn h := by
  have key : R_fits g2 n L g a b c d e = R_fits f n L g a b c d e := by
    cases hs : (R_fits f n L g a b c d e).2 with
    | none => rw [hs] at hc; rw [show g2 = f from hc]
    | some x =>
      rw [hs] at hc
      obtain ⟨g3, h3, rfl⟩ := hc
      have E : ∀ k, k = 87 ∨ k = 88 ∨ k = 89 → u2 g3 0 8 x k = f k := fun k hk => by rw [u2_row (by omega), h3 k (by omega)]
      unfold R_fits
      rw [E 87 (by omega), E 88 (by omega), E 89 (by omega)]
  rw [key] at hw hh
  refine ⟨hv.trans hw.symm, ?_⟩
  cases hs : (R_fits f n L g a b c d e).2 with
  | none =>
    rw [hs] at hc hh
    rw [show h = g2 from hh, show g2 = f from hc]
    exact I
  | some x =>
    rw [hs] at hc hh
    obtain ⟨g3, h3, rfl⟩ := hc
    exact ((I.fore h3 agF.rf).stat x).fore agC.rf hh
/-- the way that a text tells -/
theorem SpOK.way {f g : MM} {rd : Nat → Int32} {n : Nat} (hs : ISpa f) (a : agI f g) (s : SpOK g rd) (wk : n ≤ 6 ∧ WkOK g n rd) (z : ∀ t, t = 9 ∨ (32 ≤ t ∧ t < 56) → rd t = 0) : ∃ L, WayIs g 14 rd n L 0 := by
  obtain ⟨-, L, -, l1, l8, lg, ru, -⟩ := s
  obtain ⟨hn, k1, k2, k3⟩ := wk
  have z0 : (0 : Int32).toInt = 0 := by decide
  have z1 : (1 : Int32).toInt = 1 := by decide
  have z20 : (20 : Int32).toInt = 20 := by decide
  have z9 : (9 : Int32).toInt = 9 := by decide
  have z30 : (30 : Int32).toInt = 30 := by decide
  have sp : ∀ w, w < n → g (18 + w) 3 = 0 ∧ g (18 + w) 4 = 0 ∧ g (18 + w) 5 = 0 := fun w hw => by
    have q := hs.2.2 w (by omega)
    rw [a (18 + w) 3 (by omega) (by omega) (by omega) (by omega) (by omega), a (18 + w) 4 (by omega) (by omega) (by omega) (by omega) (by omega), a (18 + w) 5 (by omega) (by omega) (by omega) (by omega) (by omega)]
    exact q
  have s63 : g 16 2 = 63 := by rw [a 16 2 (by omega) (by omega) (by omega) (by omega) (by omega)]; exact hs.2.1
  refine ⟨L, ⟨hn, l8, by omega⟩, ⟨k2, (lg.1 (by omega)).2, by rw [z 9 (by omega), nI_0]⟩, ⟨k1, ?_, fun w hw j hj => ?_, fun w hw => ?_⟩, s63, (lg.1 (by omega)).1, lg.2, ⟨?_, ru.1, ru.2.1, ru.2.2.1⟩, ?_, ?_⟩
  · show sS (g 16 2) (allI n) n
    rw [s63]
    exact sS63 hn
  · have q := k3 w hw
    have q2 := sp w hw
    show g (18 + w) j = rd (14 + 6 * j + w)
    rcases j6 hj with rfl | rfl | rfl | rfl | rfl | rfl
    · exact q.1.1
    · exact q.2.1.1
    · exact q.2.2.1
    · rw [q2.1, z _ (by omega)]
    · rw [q2.2.1, z _ (by omega)]
    · rw [q2.2.2, z _ (by omega)]
  · have q := k3 w hw
    have q2 := sp w hw
    show goodR 0 (g (18 + w))
    unfold goodR
    rw [q.1.1, q.2.1.1, q.2.2.1, q2.1, q2.2.1, z0]
    have p1 := ti_le.mp q.2.1.2.1
    have p2 := ti_le.mp q.2.1.2.2
    have p3 := ti_le.mp q.2.2.2.1
    have p4 := ti_le.mp q.2.2.2.2
    exact ⟨q.1.2, ⟨by omega, by omega⟩, ⟨by omega, by omega⟩, ⟨by omega, by omega⟩, ⟨by omega, by omega⟩⟩
  · rw [a 14 4 (by omega) (by omega) (by omega) (by omega) (by omega), hs.1, nI_0]
  · have p1 := ti_le.mp ru.2.2.2.2.1.1
    have p2 := ti_le.mp ru.2.2.2.2.1.2
    omega
  · have p1 := ti_le.mp ru.2.2.2.2.2.1
    omega
theorem s_way {kn : Nat} {f g2 h : MM} {len : Nat} {v w : Int32} (I : Inv kn f) (P : PoWayC f (parseS (f 91) len (fun t => if t < 56 then 0 else f 92 t)) v g2) (Q : PoWay g2 (parseS (g2 91) len (fun t => if t < 56 then 0 else g2 92 t)) w h) : v = w ∧ Inv kn h := by
  have hz : ∀ t, t = 9 ∨ (32 ≤ t ∧ t < 56) → (parseS (f 91) len (fun t => if t < 56 then 0 else f 92 t)).2.2 t = 0 := fun t ht => by
    rw [parse_t (by omega)]
    exact if_pos (by omega)
  have e91 : g2 91 = f 91 ∧ g2 92 = f 92 := by
    rcases P with ⟨-, -, a, -⟩ | ⟨-, -, g, n, a, -, -, -, hn, -, rfl⟩
    · exact ⟨funext fun b => a 91 b (by omega) (by omega) (by omega) (by omega) (by omega), funext fun b => a 92 b (by omega) (by omega) (by omega) (by omega) (by omega)⟩
    · rw [u2_row (by decide), u2_row (by decide), C_wbec_ne hn.1 (by omega), C_wbec_ne hn.1 (by omega)]
      exact ⟨funext fun b => a 91 b (by omega) (by omega) (by omega) (by omega) (by omega), funext fun b => a 92 b (by omega) (by omega) (by omega) (by omega) (by omega)⟩
  rw [e91.1, e91.2] at Q
  generalize parseS (f 91) len (fun t => if t < 56 then 0 else f 92 t) = S at P Q hz
  rcases P with ⟨s0, rfl, a, a1, a8⟩ | ⟨s0, rfl, g, n, a, a1, a8, a14, hn, sp, rfl⟩
  · rcases Q with ⟨-, q1, q9, q8, q⟩ | ⟨s1, -⟩
    · refine ⟨q1.symm, ?_⟩
      have E : ∀ k b, ¬ (k = 2 ∧ b ≠ 0) → ¬ (k = 14 ∧ b ≠ 4) → k ≠ 15 → ¬ (k = 16 ∧ b = 1) → ¬ (18 ≤ k ∧ k < 24 ∧ b < 3) → ¬ (k = 85 ∧ 8 ≤ b ∧ b ≤ 14) → k ≠ 92 → h k b = f k b := fun k b h1 h2 h3 h4 h5 h6 h7 => by rw [q k b h6 h7, a k b h1 h2 h3 h4 h5]
      have R : ∀ k, k ≠ 2 → ¬ (14 ≤ k ∧ k < 24) → k ≠ 85 → k ≠ 92 → h k = f k := fun k h1 h2 h3 h4 => funext fun b => E k b (by omega) (by omega) (by omega) (by omega) (by omega) (by omega) h4
      have E85 : ∀ b, ¬ (8 ≤ b ∧ b ≤ 14) → h 85 b = f 85 b := fun b hb => E 85 b (by omega) (by omega) (by omega) (by omega) (by omega) (by omega) (by omega)
      refine ⟨I.row.cg (fun k hk => R k (by omega) (by omega) (by omega) (by omega)), ?_, ⟨?_, 0, by omega, ?_, ?_⟩, ?_, I.now.cg (fun k k1 k2 => R k (by omega) (by omega) (by omega) (by omega)) (fun t _ => by rw [R 89 (by omega) (by omega) (by omega) (by omega)]), I.told.cg (by rw [R 4 (by omega) (by omega) (by omega) (by omega)]) (E85 4 (by omega)), ⟨?_, ?_, fun w hw => ?_⟩, I.img.cg (fun k k1 k2 => R k (by omega) (by omega) (by omega) (by omega)) (R 99 (by omega) (by omega) (by omega) (by omega)) (R 100 (by omega) (by omega) (by omega) (by omega)) (Or.inl (E85 4 (by omega))), I.act.cg (fun k hk => R k (by omega) (by omega) (by omega) (by omega)) (R 25 (by omega) (by omega) (by omega) (by omega)) (R 93 (by omega) (by omega) (by omega) (by omega)) (E85 18 (by omega)) (E85 4 (by omega)), I.ask.cg (R 47 (by omega) (by omega) (by omega) (by omega)) (R 48 (by omega) (by omega) (by omega) (by omega)) (R 101 (by omega) (by omega) (by omega) (by omega)) (E85 27 (by omega)), I.zero.cg (R 6 (by omega) (by omega) (by omega) (by omega)) (E85 4 (by omega))⟩
      · rw [R 0 (by omega) (by omega) (by omega) (by omega), E85 3 (by omega)]; exact I.fin
      · rw [R 3 (by omega) (by omega) (by omega) (by omega), R 91 (by omega) (by omega) (by omega) (by omega)]; exact I.tap.1
      · rw [q 2 1 (by omega) (by omega), a1, nI_0]
      · rw [q8, nI_0]
      · rw [q 2 8 (by omega) (by omega), a8, q9]
      · rw [E 14 4 (by omega) (by omega) (by omega) (by omega) (by omega) (by omega) (by omega)]; exact I.spa.1
      · rw [E 16 2 (by omega) (by omega) (by omega) (by omega) (by omega) (by omega) (by omega)]; exact I.spa.2.1
      · rw [E (18 + w) 3 (by omega) (by omega) (by omega) (by omega) (by omega) (by omega) (by omega), E (18 + w) 4 (by omega) (by omega) (by omega) (by omega) (by omega) (by omega) (by omega), E (18 + w) 5 (by omega) (by omega) (by omega) (by omega) (by omega) (by omega) (by omega)]
        exact I.spa.2.2 w hw
    · exact absurd s1 s0
  · rcases Q with ⟨s1, -⟩ | ⟨-, q1, q89, q4, q18, q8, q9, q⟩
    · exact absurd s0 s1
    · refine ⟨q1.symm, ?_⟩
      obtain ⟨L, W⟩ := SpOK.way I.spa a sp hn hz
      have hn6 := hn.1
      have wb := W.bec (o := 4) (by omega)
      have t4 : C_wbec g 4 14 n 4 2 = 1 := by rw [C_wbec_o (by decide)]; exact a14
      have c0 : ∀ k, ¬ (4 ≤ k ∧ k < 14) → k ≠ 25 → u2 (C_wbec g 4 14 n) 25 2 0 k = g k := fun k k1 k2 => by rw [u2_row k2, C_wbec_ne hn6 (by omega)]
      have E : ∀ k b, ¬ (4 ≤ k ∧ k < 14) → k ≠ 25 → ¬ (k = 2 ∧ b ≠ 0) → ¬ (k = 14 ∧ b ≠ 4) → k ≠ 15 → ¬ (k = 16 ∧ b = 1) → ¬ (18 ≤ k ∧ k < 24 ∧ b < 3) → k ≠ 85 → k ≠ 92 → k ≠ 89 → h k b = f k b := fun k b p1 p2 h1 h2 h3 h4 h5 h6 h7 h8 => by rw [q k b (by omega) h7 (by omega), c0 k p1 p2, a k b h1 h2 h3 h4 h5]
      have R : ∀ k, ¬ (4 ≤ k ∧ k < 14) → k ≠ 25 → k ≠ 2 → ¬ (14 ≤ k ∧ k < 24) → k ≠ 85 → k ≠ 92 → k ≠ 89 → h k = f k := fun k p1 p2 h1 h2 h3 h4 h8 => funext fun b => E k b p1 p2 (by omega) (by omega) (by omega) (by omega) (by omega) h3 h4 h8
      have E85 : ∀ b, b ≠ 4 → b ≠ 18 → ¬ (8 ≤ b ∧ b ≤ 14) → h 85 b = f 85 b := fun b h1 h2 h3 => by rw [q 85 b (by omega) (by omega) (by omega), c0 85 (by omega) (by omega), a 85 b (by omega) (by omega) (by omega) (by omega) (by omega)]
      have h2 : ∀ b, h 2 b = g 2 b := fun b => by rw [q 2 b (by omega) (by omega) (by omega), c0 2 (by omega) (by omega)]
      have hb : ∀ k, 4 ≤ k → k < 14 → h k = C_wbec g 4 14 n k := fun k k1 k2 => funext fun b => by rw [q k b (by omega) (by omega) (by omega), u2_row (by omega)]
      refine ⟨I.row.cg (fun k hk => R k (by omega) (by omega) (by omega) (by omega) (by omega) (by omega) (by omega)), ?_, ⟨?_, 0, by omega, ?_, ?_⟩, ?_, ⟨n, L, 0, wb.mv hb (fun t ht => q89 t ht)⟩, ⟨?_, Or.inr ?_⟩, ⟨?_, ?_, fun w hw => ?_⟩, I.img.cg (fun k k1 k2 => R k (by omega) (by omega) (by omega) (by omega) (by omega) (by omega) (by omega)) (R 99 (by omega) (by omega) (by omega) (by omega) (by omega) (by omega) (by omega)) (R 100 (by omega) (by omega) (by omega) (by omega) (by omega) (by omega) (by omega)) (Or.inr q4), I.act.no ?_ ?_ q18, I.ask.cg (R 47 (by omega) (by omega) (by omega) (by omega) (by omega) (by omega) (by omega)) (R 48 (by omega) (by omega) (by omega) (by omega) (by omega) (by omega) (by omega)) (R 101 (by omega) (by omega) (by omega) (by omega) (by omega) (by omega) (by omega)) (E85 27 (by omega) (by omega) (by omega)), fun z => by rw [q4] at z; exact absurd z (by decide)⟩
      · rw [R 0 (by omega) (by omega) (by omega) (by omega) (by omega) (by omega) (by omega), E85 3 (by omega) (by omega) (by omega)]; exact I.fin
      · rw [R 3 (by omega) (by omega) (by omega) (by omega) (by omega) (by omega) (by omega), R 91 (by omega) (by omega) (by omega) (by omega) (by omega) (by omega) (by omega)]; exact I.tap.1
      · rw [h2, a1, nI_0]
      · rw [q8, nI_0]
      · rw [h2, a8, q9, c0 85 (by omega) (by omega), a 85 9 (by omega) (by omega) (by omega) (by omega) (by omega)]; exact I.flt
      · rw [hb 4 (by omega) (by omega), t4, q4]
      · rw [hb 4 (by omega) (by omega)]; exact t4
      · rw [E 14 4 (by omega) (by omega) (by omega) (by omega) (by omega) (by omega) (by omega) (by omega) (by omega) (by omega)]; exact I.spa.1
      · rw [E 16 2 (by omega) (by omega) (by omega) (by omega) (by omega) (by omega) (by omega) (by omega) (by omega) (by omega)]; exact I.spa.2.1
      · rw [E (18 + w) 3 (by omega) (by omega) (by omega) (by omega) (by omega) (by omega) (by omega) (by omega) (by omega) (by omega), E (18 + w) 4 (by omega) (by omega) (by omega) (by omega) (by omega) (by omega) (by omega) (by omega) (by omega) (by omega), E (18 + w) 5 (by omega) (by omega) (by omega) (by omega) (by omega) (by omega) (by omega) (by omega) (by omega) (by omega)]
        exact I.spa.2.2 w hw
      · rw [q 25 1 (by omega) (by omega) (by omega), u2_nb (by decide), C_wbec_ne hn6 (by omega), a 25 1 (by omega) (by omega) (by omega) (by omega) (by omega)]
      · rw [q 25 2 (by omega) (by omega) (by omega), u2_at]
