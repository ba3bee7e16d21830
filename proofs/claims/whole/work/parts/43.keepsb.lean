/-! CLASS AND REFERENCE STAY SIDE BY SIDE: ways and acts -/
theorem rg_lt {kn : Nat} {f : MM} {a q i : Nat} (A : ActI kn f a q) (hi : i < a) : rg q a i < kn ∧ rg q a i ≠ q ∨ (a = 24 ∧ rg q a i < kn) := by
  obtain ⟨b1, b2, -⟩ := A
  unfold rg
  by_cases z : kn < 24
  · have := b2 z
    left
    omega
  · by_cases y : a = 24
    · right
      omega
    · left
      omega
theorem noteF_18 {f : MM} {a : Nat} (ha : a ≤ 24) : noteF f a 85 18 = nI (min (a + 1) 24) := by
  unfold noteF
  by_cases e : a = 24
  · rw [if_pos e, u2_at, e]; rfl
  · rw [if_neg e, u2_at, Nat.min_eq_left (by omega)]
theorem noteF_lo {f : MM} {a t : Nat} (h : a ≠ 24) : noteF f a 93 t = if 56 * a ≤ t ∧ t < 56 * a + 56 then f 89 (t - 56 * a) else f 93 t := by
  unfold noteF
  rw [if_neg h, u2_row (by decide)]
  by_cases e : 56 * a ≤ t ∧ t < 56 * a + 56
  · rw [fillM_in e.1 e.2, if_pos e]
  · rw [fillM_out (by omega), if_neg e]
theorem noteF_hi {f : MM} {t : Nat} : noteF f 24 93 t = if 1288 ≤ t ∧ t < 1344 then f 89 (t - 1288) else if t < 1288 then f 93 (t + 56) else f 93 t := by
  unfold noteF
  rw [if_pos rfl, u2_row (by decide)]
  by_cases e : 1288 ≤ t ∧ t < 1344
  · rw [fillM_in (by omega) (by omega), if_pos e]
  · rw [fillM_out (by omega), if_neg e, u2_row (by decide)]
    by_cases e2 : t < 1288
    · rw [fillM_in (by omega) (by omega), if_pos e2, Nat.sub_zero]
    · rw [fillM_out (by omega), if_neg e2]
theorem noteF_eq {f g : MM} {a : Nat} (e93 : g 93 = f 93) (e89 : g 89 = f 89) : noteF g a 93 = noteF f a 93 := by
  funext t
  by_cases e : a = 24
  · subst e
    rw [noteF_hi, noteF_hi, e93, e89]
  · rw [noteF_lo e, noteF_lo e, e93, e89]
theorem ActI.note {kn kn' : Nat} {f h : MM} {a q n L g : Nat} (A : ActI kn f a q) (K : KeepK kn kn' q) (w : WayIs h (102 + 10 * q) (f 89) n L g) (w2 : h (102 + 10 * q) 2 = 1) (e : ∀ k, 102 ≤ k → k < NN kn → ¬ (102 + 10 * q ≤ k ∧ k < 102 + 10 * q + 10) → h k = f k) (e93 : h 93 = noteF f a 93) (h1 : h 25 1 = nI ((q + 1) % 24)) (h2 : h 25 2 = nI (min (a + 1) 24)) (h3 : h 85 18 = nI (min (a + 1) 24)) (h4 : h 85 4 = 1) : IAct kn' h := by
  have A0 := A
  obtain ⟨b1, b2, b3, b4, b5⟩ := A
  obtain ⟨k1, k2, k3⟩ := K
  have nn : NN kn = 102 + 10 * kn := rfl
  refine ⟨min (a + 1) 24, (q + 1) % 24, ⟨Nat.min_le_right _ _, Nat.mod_lt _ (by decide), k1⟩, fun z => ?_, ⟨h1, h2, h3⟩, fun _ => h4, fun i hi => ?_⟩
  · rcases k3 with k3 | k3
    · have := b2 (by omega)
      omega
    · have := b2 (by omega)
      omega
  · by_cases a24 : a = 24
    · subst a24
      rw [show min (24 + 1) 24 = 24 from rfl] at hi ⊢
      by_cases i23 : i = 23
      · subst i23
        have er : rg ((q + 1) % 24) 24 23 = q := by unfold rg; omega
        rw [er]
        refine ⟨w2, n, L, g, w.mv (fun _ _ _ => rfl) (fun t ht => ?_)⟩
        rw [e93, noteF_hi, if_pos (by omega)]
        exact congrArg (f 89) (by omega)
      · have er : rg ((q + 1) % 24) 24 i = rg q 24 (i + 1) := by unfold rg; omega
        have hq : rg q 24 (i + 1) ≠ q := by unfold rg; omega
        have hl : rg q 24 (i + 1) < kn := by
          rcases rg_lt A0 (i := i + 1) (by omega) with z | z
          · exact z.1
          · exact z.2
        obtain ⟨c1, n2, L2, g2, w3⟩ := b5 (i + 1) (by omega)
        rw [er]
        have eb : ∀ k, 102 + 10 * rg q 24 (i + 1) ≤ k → k < 102 + 10 * rg q 24 (i + 1) + 10 → h k = f k := fun k hk1 hk2 => e k (by omega) (by omega) (by omega)
        refine ⟨by rw [eb _ (Nat.le_refl _) (by omega)]; exact c1, n2, L2, g2, w3.mv eb (fun t ht => ?_)⟩
        rw [e93, noteF_hi, if_neg (by omega), if_pos (by omega)]
        exact congrArg (f 93) (by omega)
    · have em : min (a + 1) 24 = a + 1 := Nat.min_eq_left (by omega)
      rw [em] at hi ⊢
      by_cases ia : i = a
      · subst ia
        have er : rg ((q + 1) % 24) (i + 1) i = q := by unfold rg; omega
        rw [er]
        refine ⟨w2, n, L, g, w.mv (fun _ _ _ => rfl) (fun t ht => ?_)⟩
        rw [e93, noteF_lo a24, if_pos (by omega)]
        exact congrArg (f 89) (by omega)
      · have er : rg ((q + 1) % 24) (a + 1) i = rg q a i := by unfold rg; omega
        have hq : rg q a i ≠ q ∧ rg q a i < kn := by
          rcases rg_lt A0 (i := i) (by omega) with z | z
          · exact ⟨z.2, z.1⟩
          · exact absurd z.1 a24
        obtain ⟨c1, n2, L2, g2, w3⟩ := b5 i (by omega)
        rw [er]
        have eb : ∀ k, 102 + 10 * rg q a i ≤ k → k < 102 + 10 * rg q a i + 10 → h k = f k := fun k hk1 hk2 => e k (by omega) (by omega) (by omega)
        refine ⟨by rw [eb _ (Nat.le_refl _) (by omega)]; exact c1, n2, L2, g2, w3.mv eb (fun t ht => ?_)⟩
        rw [e93, noteF_lo a24, if_neg (by omega)]
theorem keep_facts {kn : Nat} {f f0 : MM} {n L g a q : Nat} (W : WayIs f 4 (f 89) n L g) (hf0 : ∀ k, k < NN kn → f0 k = f k) : (∀ k, k < 102 → k ≠ 25 → keptF f0 q n a k = f k) ∧ (∀ k, 102 ≤ k → k < NN kn → ¬ (102 + 10 * q ≤ k ∧ k < 102 + 10 * q + 10) → keptF f0 q n a k = f k) ∧ WayIs (keptF f0 q n a) (102 + 10 * q) (f 89) n L g ∧ keptF f0 q n a (102 + 10 * q) 2 = f 4 2 ∧ keptF f0 q n a 25 1 = nI ((q + 1) % 24) ∧ keptF f0 q n a 25 2 = nI (min (a + 1) 24) := by
  have nn : NN kn = 102 + 10 * kn := rfl
  refine ⟨fun k h1 h2 => ?_, fun k h1 h2 h3 => ?_, ?_, ?_, ?_, ?_⟩
  · rw [keptF_ne W.1.1 h2 (by omega), hf0 k (by omega)]
  · rw [keptF_ne W.1.1 (by omega) (by omega), hf0 k h2]
  · have w0 := (W.mv (h := f0) (fun k h1 h2 => hf0 k (by omega)) (fun _ _ => rfl)).bec (o := 102 + 10 * q) (by omega)
    exact w0.mv (fun k h1 h2 => by unfold keptF; rw [u2_row (by omega), u2_row (by omega)]) (fun _ _ => rfl)
  · unfold keptF
    rw [u2_row (by omega), u2_row (by omega), C_wbec_o (by decide), hf0 4 (by omega)]
  · unfold keptF
    rw [u2_nb (by decide), u2_at]
  · unfold keptF
    rw [u2_at]
theorem Inv.kept {kn kn' : Nat} {f f0 h : MM} {n L g a q : Nat} (I : Inv kn f) (W : WayIs f 4 (f 89) n L g) (A : ActI kn f a q) (K : KeepK kn kn' q) (hf0 : ∀ k, k < NN kn → f0 k = f k) (ht : ¬ f 85 4 = 0) (e1 : ∀ k, k < 102 → ¬ (4 ≤ k ∧ k < 14) → k ≠ 25 → k ≠ 85 → k ≠ 89 → k ≠ 93 → h k = f k) (e2 : ∀ k, 102 ≤ k → h k = keptF f0 q n a k) (e25 : h 25 = keptF f0 q n a 25) (e85 : ∀ b, b ≠ 16 → b ≠ 18 → h 85 b = f 85 b) (e18 : h 85 18 = nI (min (a + 1) 24)) (e93 : h 93 = noteF f a 93) (e4 : h 4 2 = f 4 2) (hN : INow h) : Inv kn' h := by
  obtain ⟨f1, f2, f3, f4, f5, f6⟩ := keep_facts (a := a) (q := q) W hf0
  have t1 : f 4 2 = 1 := by
    rcases I.told.2 with z | z
    · rw [I.told.1] at z; exact absurd z ht
    · exact z
  have t2 : f 85 4 = 1 := I.told.1.symm.trans t1
  refine ⟨I.row.cg (fun k hk => e1 k (by omega) (by omega) (by omega) (by omega) (by omega) (by omega)), ?_, I.tap.cg (e1 3 (by omega) (by omega) (by omega) (by omega) (by omega) (by omega)) (e1 91 (by omega) (by omega) (by omega) (by omega) (by omega) (by omega)) (by rw [e1 2 (by omega) (by omega) (by omega) (by omega) (by omega) (by omega)]) (e85 8 (by omega) (by omega)), ?_, hN, I.told.cg e4 (e85 4 (by omega) (by omega)), I.spa.cg (fun k k1 k2 => e1 k (by omega) (by omega) (by omega) (by omega) (by omega) (by omega)), I.img.cg (fun k k1 k2 => e1 k (by omega) (by omega) (by omega) (by omega) (by omega) (by omega)) (e1 99 (by omega) (by omega) (by omega) (by omega) (by omega) (by omega)) (e1 100 (by omega) (by omega) (by omega) (by omega) (by omega) (by omega)) (Or.inl (e85 4 (by omega) (by omega))), ?_, I.ask.cg (e1 47 (by omega) (by omega) (by omega) (by omega) (by omega) (by omega)) (e1 48 (by omega) (by omega) (by omega) (by omega) (by omega) (by omega)) (e1 101 (by omega) (by omega) (by omega) (by omega) (by omega) (by omega)) (e85 27 (by omega) (by omega)), fun z => absurd ((e85 4 (by omega) (by omega)).symm.trans z) ht⟩
  · rw [e1 0 (by omega) (by omega) (by omega) (by omega) (by omega) (by omega), e85 3 (by omega) (by omega)]; exact I.fin
  · rw [e1 2 (by omega) (by omega) (by omega) (by omega) (by omega) (by omega), e85 9 (by omega) (by omega)]; exact I.flt
  · exact A.note K (f3.mv (fun k k1 k2 => e2 k (by omega)) (fun _ _ => rfl)) (by rw [e2 _ (by omega), f4, t1]) (fun k k1 k2 k3 => by rw [e2 k k1, f2 k k1 k2 k3]) e93 (by rw [e25]; exact f5) (by rw [e25]; exact f6) e18 (by rw [e85 4 (by omega) (by omega)]; exact t2)
theorem s_go {kn kn' : Nat} {f g2 : MM} {n L g a q : Nat} {v : Int32} (I : Inv kn f) (W : WayIs f 4 (f 89) n L g) (A : ActI kn f a q) (P : PoGo kn f n L g a q kn' v g2) : g2 89 = f 89 ∧ g2 85 18 = nI a ∧ (R_go g2 n L g a).1 = v ∧ Inv kn' (R_go g2 n L g a).2 := by
  obtain ⟨rfl, ⟨h, rfl, rfl⟩ | ⟨h1, h2, K, f0, hf0, rfl⟩⟩ := P
  · refine ⟨rfl, A.2.2.1.2.2, rfl, ?_⟩
    unfold R_go
    by_cases z : g2 85 4 = 0
    · rw [if_pos z]; exact I
    · rw [if_neg z, if_pos (h.resolve_left z)]; exact I
  · obtain ⟨f1, f2, f3, f4, f5, f6⟩ := keep_facts (a := a) (q := q) W hf0
    have N := W.now
    have hn6 := N.hn
    have gL : g < L := by have := N.hg; omega
    have c1 : ∀ k, k ≠ 4 → ¬ (8 ≤ k ∧ k < 14) → u2 (C_move (keptF f0 q n a) 4 6 n L g (f 89 10) (f 89 11)) 4 4 (nI (g + 1)) k = keptF f0 q n a k := fun k k1 k2 => by rw [u2_row k1, C_move_p (by omega)]
    have e85 : u2 (C_move (keptF f0 q n a) 4 6 n L g (f 89 10) (f 89 11)) 4 4 (nI (g + 1)) 85 = f 85 := by rw [c1 85 (by omega) (by omega), f1 85 (by omega) (by omega)]
    have e89 : u2 (C_move (keptF f0 q n a) 4 6 n L g (f 89 10) (f 89 11)) 4 4 (nI (g + 1)) 89 = f 89 := by rw [c1 89 (by omega) (by omega), f1 89 (by omega) (by omega)]
    have e93 : u2 (C_move (keptF f0 q n a) 4 6 n L g (f 89 10) (f 89 11)) 4 4 (nI (g + 1)) 93 = f 93 := by rw [c1 93 (by omega) (by omega), f1 93 (by omega) (by omega)]
    refine ⟨e89, by rw [e85]; exact A.2.2.1.2.2, ?_, ?_⟩
    · unfold R_go
      rw [e85, if_neg h1, if_neg h1, if_neg h2, if_neg h2]
    · unfold R_go
      rw [e85, if_neg h1, if_neg h2]
      show Inv kn' (goF _ n L g a)
      have gk : ∀ k, k ≠ 85 → k ≠ 89 → k ≠ 93 → goF (u2 (C_move (keptF f0 q n a) 4 6 n L g (f 89 10) (f 89 11)) 4 4 (nI (g + 1))) n L g a k = u2 (C_move (keptF f0 q n a) 4 6 n L g (f 89 10) (f 89 11)) 4 4 (nI (g + 1)) k := fun k k1 k2 k3 => by unfold goF; rw [up_ne k2, u2_row k1, noteF_row k3 k1]
      refine I.kept W A K hf0 h1 (fun k k1 k2 k3 k4 k5 k6 => by rw [gk k k4 k5 k6, c1 k (by omega) (by omega), f1 k k1 k3]) (fun k hk => by rw [gk k (by omega) (by omega) (by omega), c1 k (by omega) (by omega)]) (by rw [gk 25 (by omega) (by omega) (by omega), c1 25 (by omega) (by omega)]) (fun b b1 b2 => ?_) ?_ ?_ ?_ ?_
      · unfold goF
        rw [up_ne (by decide), u2_nb b1, noteF_85 b2, e85]
      · unfold goF
        rw [up_ne (by decide), u2_nb (by decide), noteF_18 A.1.1]
      · unfold goF
        rw [up_ne (by decide), u2_row (by decide), noteF_eq e93 e89]
      · rw [gk 4 (by omega) (by omega) (by omega), u2_nb (by decide), C_move_p (by omega), f1 4 (by omega) (by omega)]
      · have e9 : goF (u2 (C_move (keptF f0 q n a) 4 6 n L g (f 89 10) (f 89 11)) 4 4 (nI (g + 1))) n L g a 89 = goS n L g (allI n) (f 89) := by unfold goF; rw [up_at, e89]
        have hPk : Pt (keptF f0 q n a) 6 n (allI n) g (f 89) := N.pt.congr (fun k k1 k2 => f1 k (by omega) (by omega)) hn6
        have hWk : Wy (keptF f0 q n a) L (f 89) := by
          refine ⟨by rw [f1 4 (by omega) (by omega)]; exact N.wy.1, fun j hj => ?_⟩
          rw [f1 5 (by omega) (by omega)]
          exact N.wy.2 j hj
        have hPm := hPk.move hWk hn6 (by have := N.hL; omega) gL rfl rfl N.mb
        refine ⟨n, L, g + 1, ⟨hn6, N.hL, by omega⟩, ?_, ?_, ?_, ?_, fun j hj => ?_, ?_, ?_, ?_⟩
        · rw [e9, goS_lo (by decide) (by decide), goS_lo (by decide) (by decide), goS_9]
          exact ⟨W.2.1.1, W.2.1.2.1, rfl⟩
        · rw [e9]
          exact hPm.congr (fun k k1 k2 => by rw [gk k (by omega) (by omega) (by omega), u2_row (by omega)]) hn6
        · rw [gk _ (by omega) (by omega) (by omega), u2_row (by omega), C_move_p (by omega), f1 _ (by omega) (by omega)]; exact W.2.2.2.1
        · rw [gk _ (by omega) (by omega) (by omega), u2_nb (by decide), C_move_p (by omega), f1 _ (by omega) (by omega)]; exact N.wy.1
        · have := N.hL
          rw [gk _ (by omega) (by omega) (by omega), u2_row (by omega), C_move_p (by omega), f1 _ (by omega) (by omega), e9, goS_lo (by omega) (by omega)]
          exact N.wy.2 j hj
        · rw [gk _ (by omega) (by omega) (by omega), u2_at, u2_nb (by decide), u2_nb (by decide), u2_nb (by decide), C_move_p (by omega), f1 _ (by omega) (by omega), e9, goS_lo (by decide) (by decide), goS_lo (by decide) (by decide), goS_lo (by decide) (by decide)]
          exact ⟨rfl, N.ru, N.mi, N.su⟩
        · rw [e9, goS_lo (by decide) (by decide)]; exact N.mb
        · rw [e9, goS_lo (by decide) (by decide)]; exact W.2.2.2.2.2.2.2.2
theorem s_rule {kn kn' : Nat} {f g2 : MM} {n L g a q : Nat} {v x y : Int32} (I : Inv kn f) (W : WayIs f 4 (f 89) n L g) (A : ActI kn f a q) (P : PoRule kn f n a q x y kn' v g2) : g2 89 = f 89 ∧ g2 85 18 = nI a ∧ (R_rule g2 a x y).1 = v ∧ Inv kn' (R_rule g2 a x y).2 := by
  obtain ⟨rfl, ⟨h, rfl, rfl⟩ | ⟨h1, h2, h3, K, f0, hf0, rfl⟩⟩ := P
  · refine ⟨rfl, A.2.2.1.2.2, rfl, ?_⟩
    unfold R_rule
    by_cases z : g2 85 4 = 0
    · rw [if_pos z]; exact I
    · rw [if_neg z]
      by_cases z2 : inR x 4 = true
      · rw [if_pos z2, if_neg (fun z3 => h ⟨z, z2, z3⟩)]; exact I
      · rw [if_neg z2]; exact I
  · obtain ⟨f1, f2, f3, f4, f5, f6⟩ := keep_facts (a := a) (q := q) W hf0
    have N := W.now
    have hn6 := N.hn
    have c1 : ∀ k, k ≠ 4 → u2 (u2 (keptF f0 q n a) 4 5 x) 4 6 y k = keptF f0 q n a k := fun k k1 => by rw [u2_row k1, u2_row k1]
    have e85 : u2 (u2 (keptF f0 q n a) 4 5 x) 4 6 y 85 = f 85 := by rw [c1 85 (by omega), f1 85 (by omega) (by omega)]
    have e89 : u2 (u2 (keptF f0 q n a) 4 5 x) 4 6 y 89 = f 89 := by rw [c1 89 (by omega), f1 89 (by omega) (by omega)]
    have e93 : u2 (u2 (keptF f0 q n a) 4 5 x) 4 6 y 93 = f 93 := by rw [c1 93 (by omega), f1 93 (by omega) (by omega)]
    refine ⟨e89, by rw [e85]; exact A.2.2.1.2.2, ?_, ?_⟩
    · unfold R_rule
      rw [e85, e89, if_neg h1, if_neg h1, if_pos h2, if_pos h2, if_pos h3, if_pos h3]
    · unfold R_rule
      rw [e85, if_neg h1, if_pos h2, if_pos h3]
      show Inv kn' (u2 (u2 (noteF (u2 (u2 (keptF f0 q n a) 4 5 x) 4 6 y) a) 89 10 x) 89 11 y)
      generalize hG : u2 (u2 (keptF f0 q n a) 4 5 x) 4 6 y = G2 at c1 e85 e89 e93
      have g4 : G2 4 2 = f 4 2 ∧ G2 4 3 = f 4 3 ∧ G2 4 4 = f 4 4 ∧ G2 4 5 = x ∧ G2 4 6 = y ∧ G2 4 7 = f 4 7 := by
        rw [← hG]
        refine ⟨?_, ?_, ?_, ?_, ?_, ?_⟩
        · rw [u2_nb (by decide), u2_nb (by decide), f1 4 (by omega) (by omega)]
        · rw [u2_nb (by decide), u2_nb (by decide), f1 4 (by omega) (by omega)]
        · rw [u2_nb (by decide), u2_nb (by decide), f1 4 (by omega) (by omega)]
        · rw [u2_nb (by decide), u2_at]
        · rw [u2_at]
        · rw [u2_nb (by decide), u2_nb (by decide), f1 4 (by omega) (by omega)]
      have gk : ∀ k, k ≠ 85 → k ≠ 89 → k ≠ 93 → u2 (u2 (noteF G2 a) 89 10 x) 89 11 y k = G2 k := fun k k1 k2 k3 => by rw [u2_row k2, u2_row k2, noteF_row k3 k1]
      refine I.kept W A K hf0 h1 (fun k k1 k2 k3 k4 k5 k6 => by rw [gk k k4 k5 k6, c1 k (by omega), f1 k k1 k3]) (fun k hk => by rw [gk k (by omega) (by omega) (by omega), c1 k (by omega)]) (by rw [gk 25 (by omega) (by omega) (by omega), c1 25 (by omega)]) (fun b b1 b2 => ?_) ?_ ?_ ?_ ?_
      · rw [u2_row (by decide), u2_row (by decide), noteF_85 b2, e85]
      · rw [u2_row (by decide), u2_row (by decide), noteF_18 A.1.1]
      · rw [u2_row (by decide), u2_row (by decide), noteF_eq e93 e89]
      · rw [gk 4 (by omega) (by omega) (by omega)]; exact g4.1
      · have e9 : u2 (u2 (noteF G2 a) 89 10 x) 89 11 y 89 = upd (upd (f 89) 10 x) 11 y := by rw [u2_self, u2_self, noteF_row (by decide) (by decide), e89]
        have yb := of_decide_eq_true h3
        refine ⟨n, L, g, W.1, ?_, ?_, ?_, ?_, fun j hj => ?_, ?_, ?_, ?_⟩
        · rw [e9, upd_ne (by decide), upd_ne (by decide), upd_ne (by decide), upd_ne (by decide), upd_ne (by decide), upd_ne (by decide)]
          exact W.2.1
        · rw [e9]
          exact (N.pt.congr (fun k k1 k2 => by rw [gk k (by omega) (by omega) (by omega), c1 k (by omega), f1 k (by omega) (by omega)]) hn6).st (fun k hk => by rw [upd_ne (by omega), upd_ne (by omega)])
        · rw [gk _ (by omega) (by omega) (by omega), c1 _ (by omega), f1 _ (by omega) (by omega)]; exact W.2.2.2.1
        · rw [gk _ (by omega) (by omega) (by omega), g4.2.1]; exact N.wy.1
        · have := N.hL
          rw [gk _ (by omega) (by omega) (by omega), c1 _ (by omega), f1 _ (by omega) (by omega), e9, upd_ne (by omega), upd_ne (by omega)]
          exact N.wy.2 j hj
        · rw [gk _ (by omega) (by omega) (by omega), g4.2.2.1, g4.2.2.2.1, g4.2.2.2.2.1, g4.2.2.2.2.2, e9, upd_ne (by decide), upd_at, upd_at, upd_ne (by decide), upd_ne (by decide)]
          exact ⟨N.gt, rfl, rfl, N.su⟩
        · rw [e9, upd_at]; omega
        · rw [e9, upd_ne (by decide), upd_ne (by decide)]; exact W.2.2.2.2.2.2.2.2
theorem s_give {kn kn' : Nat} {f g2 : MM} {n L g a q : Nat} {v x y : Int32} (I : Inv kn f) (W : WayIs f 4 (f 89) n L g) (A : ActI kn f a q) (ht : 0 < n → ¬ f 85 4 = 0) (P : PoGive kn f n a q x y kn' v g2) : g2 89 = f 89 ∧ g2 85 18 = nI a ∧ (R_give g2 n a x y).1 = v ∧ Inv kn' (R_give g2 n a x y).2 := by
  obtain ⟨rfl, ⟨h, rfl, rfl⟩ | ⟨⟨h1, h2, h3, h4⟩, K, f0, hf0, rfl⟩⟩ := P
  · refine ⟨rfl, A.2.2.1.2.2, rfl, ?_⟩
    unfold R_give
    by_cases z1 : inR x n = true
    · rw [if_pos z1]
      by_cases z2 : inR y n = true
      · rw [if_pos z2]
        by_cases z3 : x = y
        · rw [if_pos z3]; exact I
        · rw [if_neg z3, if_neg (fun z4 => h ⟨z1, z2, z3, z4⟩)]; exact I
      · rw [if_neg z2]; exact I
    · rw [if_neg z1]; exact I
  · obtain ⟨f1, f2, f3, f4, f5, f6⟩ := keep_facts (a := a) (q := q) W hf0
    have N := W.now
    have hn6 := N.hn
    obtain ⟨i, hi, rfl⟩ := inR_of h1
    obtain ⟨j, hj, rfl⟩ := inR_of h2
    have ti : tn (nI i) = i := tn_nI (by omega)
    have tj : tn (nI j) = j := tn_nI (by omega)
    have ij : i ≠ j := fun z => h3 (by rw [z])
    rw [ti, tj] at h4 ⊢
    generalize hB : f 89 (26 + i) + f 89 (26 + j) = bo at h4
    have c1 : ∀ k, ¬ (8 ≤ k ∧ k < 14) → u2 (u2 (keptF f0 q n a) (6 + 2 + i) 2 0) (6 + 2 + j) 2 bo k = keptF f0 q n a k := fun k k1 => by rw [u2_row (by omega), u2_row (by omega)]
    have e85 : u2 (u2 (keptF f0 q n a) (6 + 2 + i) 2 0) (6 + 2 + j) 2 bo 85 = f 85 := by rw [c1 85 (by omega), f1 85 (by omega) (by omega)]
    have e89 : u2 (u2 (keptF f0 q n a) (6 + 2 + i) 2 0) (6 + 2 + j) 2 bo 89 = f 89 := by rw [c1 89 (by omega), f1 89 (by omega) (by omega)]
    have e93 : u2 (u2 (keptF f0 q n a) (6 + 2 + i) 2 0) (6 + 2 + j) 2 bo 93 = f 93 := by rw [c1 93 (by omega), f1 93 (by omega) (by omega)]
    refine ⟨e89, by rw [e85]; exact A.2.2.1.2.2, ?_, ?_⟩
    · unfold R_give
      rw [e89, if_pos h1, if_pos h1, if_pos h2, if_pos h2, if_neg h3, if_neg h3, ti, tj, hB, if_pos h4, if_pos h4]
    · unfold R_give
      rw [e89, if_pos h1, if_pos h2, if_neg h3, ti, tj, hB, if_pos h4]
      show Inv kn' (u2 (u2 (noteF (u2 (u2 (keptF f0 q n a) (6 + 2 + i) 2 0) (6 + 2 + j) 2 bo) a) 89 (26 + i) 0) 89 (26 + j) bo)
      have gw : ∀ w t, w < 6 → u2 (u2 (keptF f0 q n a) (6 + 2 + i) 2 0) (6 + 2 + j) 2 bo (6 + 2 + w) t = if w = j ∧ t = 2 then bo else if w = i ∧ t = 2 then 0 else f (6 + 2 + w) t := by
        intro w t hw
        simp only [u2]
        by_cases z : w = j ∧ t = 2
        · rw [if_pos (by omega), if_pos z]
        · rw [if_neg (by omega), if_neg z]
          by_cases z2 : w = i ∧ t = 2
          · rw [if_pos (by omega), if_pos z2]
          · rw [if_neg (by omega), if_neg z2, f1 _ (by omega) (by omega)]
      generalize hG : u2 (u2 (keptF f0 q n a) (6 + 2 + i) 2 0) (6 + 2 + j) 2 bo = G2 at c1 e85 e89 e93 gw
      have gk : ∀ k, k ≠ 85 → k ≠ 89 → k ≠ 93 → u2 (u2 (noteF G2 a) 89 (26 + i) 0) 89 (26 + j) bo k = G2 k := fun k k1 k2 k3 => by rw [u2_row k2, u2_row k2, noteF_row k3 k1]
      refine I.kept W A K hf0 (ht (by omega)) (fun k k1 k2 k3 k4 k5 k6 => by rw [gk k k4 k5 k6, c1 k (by omega), f1 k k1 k3]) (fun k hk => by rw [gk k (by omega) (by omega) (by omega), c1 k (by omega)]) (by rw [gk 25 (by omega) (by omega) (by omega), c1 25 (by omega)]) (fun b b1 b2 => ?_) ?_ ?_ ?_ ?_
      · rw [u2_row (by decide), u2_row (by decide), noteF_85 b2, e85]
      · rw [u2_row (by decide), u2_row (by decide), noteF_18 A.1.1]
      · rw [u2_row (by decide), u2_row (by decide), noteF_eq e93 e89]
      · rw [gk 4 (by omega) (by omega) (by omega), c1 4 (by omega), f1 4 (by omega) (by omega)]
      · have e9 : u2 (u2 (noteF G2 a) 89 (26 + i) 0) 89 (26 + j) bo 89 = upd (upd (f 89) (26 + i) 0) (26 + j) bo := by rw [u2_self, u2_self, noteF_row (by decide) (by decide), e89]
        have si := (N.pt.2.2.2 i hi).2.2.1
        have sj := (N.pt.2.2.2 j hj).2.2.1
        rw [show f (6 + 2 + i) 2 = f 89 (26 + i) from N.pt.2.2.1 i hi 2 (by decide)] at si
        rw [show f (6 + 2 + j) 2 = f 89 (26 + j) from N.pt.2.2.1 j hj 2 (by decide)] at sj
        have bb : 0 ≤ bo.toInt ∧ bo.toInt ≤ 20 := by
          have z20 : (20 : Int32).toInt = 20 := by decide
          have q := ti_le.mp h4
          rw [← hB, ti_add (by omega) (by omega)] at q ⊢
          omega
        refine ⟨n, L, g, W.1, ?_, ⟨?_, ?_, fun w hw t ht2 => ?_, fun w hw => ?_⟩, ?_, ?_, fun t ht2 => ?_, ?_, ?_, ?_⟩
        · rw [e9, upd_ne (by omega), upd_ne (by omega), upd_ne (by omega), upd_ne (by omega), upd_ne (by omega), upd_ne (by omega)]
          exact W.2.1
        · rw [gk _ (by omega) (by omega) (by omega), c1 _ (by omega), f1 _ (by omega) (by omega)]; exact N.pt.1
        · rw [gk _ (by omega) (by omega) (by omega), c1 _ (by omega), f1 _ (by omega) (by omega)]; exact N.pt.2.1
        · rw [gk _ (by omega) (by omega) (by omega)]
          show G2 (6 + 2 + w) t = _
          rw [gw w t (by omega), e9]
          unfold upd
          by_cases z : w = j ∧ t = 2
          · rw [if_pos z, if_pos (show 14 + 6 * t + w = 26 + j by omega)]
          · rw [if_neg z, if_neg (show ¬ 14 + 6 * t + w = 26 + j by omega)]
            by_cases z2 : w = i ∧ t = 2
            · rw [if_pos z2, if_pos (show 14 + 6 * t + w = 26 + i by omega)]
            · rw [if_neg z2, if_neg (show ¬ 14 + 6 * t + w = 26 + i by omega)]
              exact N.pt.2.2.1 w hw t ht2
        · rw [gk _ (by omega) (by omega) (by omega)]
          show goodR g (G2 (6 + 2 + w))
          have gd := N.pt.2.2.2 w hw
          unfold goodR
          have gg : ∀ t, t ≠ 2 → G2 (6 + 2 + w) t = f (6 + 2 + w) t := fun t ht2 => by rw [gw w t (by omega), if_neg (fun q => ht2 q.2), if_neg (fun q => ht2 q.2)]
          rw [gg 0 (by decide), gg 1 (by decide), gw w 2 (by omega), gg 3 (by decide), gg 4 (by decide)]
          refine ⟨gd.1, gd.2.1, ?_, gd.2.2.2.1, gd.2.2.2.2⟩
          by_cases z : w = j
          · rw [if_pos ⟨z, rfl⟩]; exact bb
          · rw [if_neg (fun q => z q.1)]
            by_cases z2 : w = i
            · rw [if_pos ⟨z2, rfl⟩]; decide
            · rw [if_neg (fun q => z2 q.1)]; exact gd.2.2.1
        · rw [gk _ (by omega) (by omega) (by omega), c1 _ (by omega), f1 _ (by omega) (by omega)]; exact W.2.2.2.1
        · rw [gk _ (by omega) (by omega) (by omega), c1 _ (by omega), f1 _ (by omega) (by omega)]; exact N.wy.1
        · have := N.hL
          rw [gk _ (by omega) (by omega) (by omega), c1 _ (by omega), f1 _ (by omega) (by omega), e9, upd_ne (by omega), upd_ne (by omega)]
          exact N.wy.2 t ht2
        · rw [gk _ (by omega) (by omega) (by omega), c1 _ (by omega), f1 _ (by omega) (by omega), e9, upd_ne (by omega), upd_ne (by omega), upd_ne (by omega), upd_ne (by omega), upd_ne (by omega), upd_ne (by omega)]
          exact ⟨N.gt, N.ru, N.mi, N.su⟩
        · rw [e9, upd_ne (by omega), upd_ne (by omega)]; exact N.mb
        · rw [e9, upd_ne (by omega), upd_ne (by omega)]; exact W.2.2.2.2.2.2.2.2
