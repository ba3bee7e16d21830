/-! THE CLASS DOES -/
def CR_image (f : MM) (n : Nat) (k : Int32) : MM := if inR k 2 = true then if f 85 4 = 0 then f else C_wbec f (65 + 10 * tn k) 4 n else f
set_option maxRecDepth 100000 in
set_option maxHeartbeats 4000000 in
theorem c_X8_image {G : GG} {kn : Nat} {f : MM} {n L g : Nat} (W : WayIs f 4 (f 89) n L g) (hT : ITold f) {a : Int32} : CI G mX8_image 4 kn [.ref (G.1 + 0), .int a] f (R_image f a).1 (CR_image f n a) := by
  refine Ct.of [some (.ref (G.1 + 0)), some (.int a)] rfl (by decide +kernel) rfl (Nat.le_of_ble_eq_true rfl) rfl ?_
  intro X C
  have N := W.now
  have hn6 := N.hn
  have hL8 := N.hL
  have hgL := N.hg
  have hc := N.pt.2.2.1
  have hwy := N.wy.2
  refine r_iload_n (pc := 0) C dX8_image_0 rfl ?_
  refine r_aload_n (pc := 1) C dX8_image_1 rfl ?_
  refine r_getr (pc := 2) C fX8_32 dX8_image_2 (s_0 _) rfl rfl ?_
  refine r_alen (pc := 5) C (2) dX8_image_5 ⟨(s_24 _).1, by rw [(s_24 _).2]; decide, by rw [(s_24 _).2]; decide⟩ (sn_24 _) rfl ?_
  refine q_sIf (pc := 6) C kX8_58 dX8_image_6 (c_blw 2 rfl (by decide)) rfl rfl (Nat.le_of_ble_eq_true rfl) (by decide) ⟨by decide, by decide⟩ ?_
  refine r_if_ne (pc := 9) C 15 dX8_image_9 (by decide) (fun c9 => ?_) (fun c9 => ?_)
  · replace c9 := b1_1 c9
    obtain ⟨j, hj, rfl⟩ := inR_of c9
    have tj : tn (nI j) = j := tn_nI (by omega)
    refine r_aload_n (pc := 15) C dX8_image_15 rfl ?_
    refine r_getr (pc := 16) C fX8_25 dX8_image_16 (s_0 _) rfl rfl ?_
    refine r_get (pc := 19) C fX8_134 dX8_image_19 (w_0 isW.now) rfl ?_
    refine q_val (f 85 4) hT.1 ?_
    refine r_if_ne (pc := 22) C 28 dX8_image_22 (by decide) (fun c22 => ?_) (fun c22 => ?_)
    · refine r_aload_n (pc := 28) C dX8_image_28 rfl ?_
      refine r_getr (pc := 29) C fX8_32 dX8_image_29 (s_0 _) rfl rfl ?_
      refine r_iload_n (pc := 32) C dX8_image_32 rfl ?_
      refine q_aald (pc := 33) C j dX8_image_33 (s_24 _) (by decide) (sn_24 _) rfl (by omega) (by decide) (ia_t (by omega)) ?_
      refine r_aload_n (pc := 34) C dX8_image_34 rfl ?_
      refine r_getr (pc := 35) C fX8_25 dX8_image_35 (s_0 _) rfl rfl ?_
      refine q_vVf (pc := 38) C kX8_117 dX8_image_38 (c_X7_become (n := n) (isW.img hj) isW.now (by omega) hn6 N.pt.1 hT.2) (w_0 (isW.img (by omega))) rfl rfl (Nat.le_of_ble_eq_true rfl) (by decide) ⟨by decide, by decide⟩ ?_
      refine r_iconst (pc := 41) C (1) dX8_image_41 (by decide) ?_
      refine q_iret (pc := 42) C dX8_image_42 rfl ?_
      exact ⟨by simp [R_image, c9, tj, c22], by simp [CR_image, c9, tj, c22]⟩
    · refine r_ldc (pc := 25) C (-1000002) kX8_143 dX8_image_25 ?_
      refine q_iret (pc := 27) C dX8_image_27 rfl ?_
      exact ⟨by simp [R_image, c9, tj, c22], by simp [CR_image, c9, tj, c22]⟩
  · replace c9 := b1_0 c9
    refine r_ldc (pc := 12) C (-1000001) kX8_62 dX8_image_12 ?_
    refine q_iret (pc := 14) C dX8_image_14 rfl ?_
    exact ⟨by simp [R_image, c9], by simp [CR_image, c9]⟩
def PoRest (f : MM) (k : Int32) (g2 : MM) : Prop := if inR k 2 = true then if f 99 (tn k) = 0 then g2 = f else ∃ n L g, WayIs f (65 + 10 * tn k) (fun t => f 100 (56 * tn k + t)) n L g ∧ g2 = u2 (C_wbec f 4 (65 + 10 * tn k) n) 25 2 0 else g2 = f
set_option maxRecDepth 100000 in
set_option maxHeartbeats 4000000 in
theorem c_X8_restore {G : GG} {kn : Nat} {f : MM} (hI : IImg f) {a : Int32} : RI G mX8_restore 4 kn [.ref (G.1 + 0), .int a] f (fun v g2 => v = (R_restore f a).1 ∧ PoRest f a g2) := by
  refine Ct.of [some (.ref (G.1 + 0)), some (.int a)] rfl (by decide +kernel) rfl (Nat.le_of_ble_eq_true rfl) rfl ?_
  intro X C
  refine r_iload_n (pc := 0) C dX8_restore_0 rfl ?_
  refine r_aload_n (pc := 1) C dX8_restore_1 rfl ?_
  refine r_getr (pc := 2) C fX8_32 dX8_restore_2 (s_0 _) rfl rfl ?_
  refine r_alen (pc := 5) C (2) dX8_restore_5 ⟨(s_24 _).1, by rw [(s_24 _).2]; decide, by rw [(s_24 _).2]; decide⟩ (sn_24 _) rfl ?_
  refine q_sIf (pc := 6) C kX8_58 dX8_restore_6 (c_blw 2 rfl (by decide)) rfl rfl (Nat.le_of_ble_eq_true rfl) (by decide) ⟨by decide, by decide⟩ ?_
  refine r_if_ne (pc := 9) C 15 dX8_restore_9 (by decide) (fun c9 => ?_) (fun c9 => ?_)
  · replace c9 := b1_1 c9
    obtain ⟨j, hj, rfl⟩ := inR_of c9
    have tj : tn (nI j) = j := tn_nI (by omega)
    refine r_aload_n (pc := 15) C dX8_restore_15 rfl ?_
    refine r_getr (pc := 16) C fX8_32 dX8_restore_16 (s_0 _) rfl rfl ?_
    refine r_iload_n (pc := 19) C dX8_restore_19 rfl ?_
    refine q_aald (pc := 20) C j dX8_restore_20 (s_24 _) (by decide) (sn_24 _) rfl (by omega) (by decide) (ia_t (by omega)) ?_
    refine r_get (pc := 21) C fX8_134 dX8_restore_21 (w_0 (isW.img (by omega))) rfl ?_
    refine q_val (f 99 j) (hI j hj).1.symm ?_
    refine r_if_ne (pc := 24) C 30 dX8_restore_24 (by decide) (fun c24 => ?_) (fun c24 => ?_)
    · have wi : ∃ n L g, WayIs f (65 + 10 * j) (fun t => f 100 (56 * j + t)) n L g := by
        rcases (hI j hj).2 with z | z
        · exact absurd z c24
        · exact z.2.2
      obtain ⟨n, L, g, w⟩ := wi
      have tl : f (65 + 10 * j) 2 = 0 ∨ f (65 + 10 * j) 2 = 1 := by
        rw [← (hI j hj).1]
        rcases (hI j hj).2 with z | z
        · exact Or.inl z
        · exact Or.inr z.1
      refine r_aload_n (pc := 30) C dX8_restore_30 rfl ?_
      refine r_getr (pc := 31) C fX8_25 dX8_restore_31 (s_0 _) rfl rfl ?_
      refine r_aload_n (pc := 34) C dX8_restore_34 rfl ?_
      refine r_getr (pc := 35) C fX8_32 dX8_restore_35 (s_0 _) rfl rfl ?_
      refine r_iload_n (pc := 38) C dX8_restore_38 rfl ?_
      refine q_aald (pc := 39) C j dX8_restore_39 (s_24 _) (by decide) (sn_24 _) rfl (by omega) (by decide) (ia_t (by omega)) ?_
      refine q_vVf (pc := 40) C kX8_117 dX8_restore_40 (c_X7_become (n := n) isW.now (isW.img hj) (by omega) w.1.1 w.2.2.1.1 tl) (w_0 isW.now) rfl rfl (Nat.le_of_ble_eq_true rfl) (by decide) ⟨by decide, by decide⟩ ?_
      refine r_aload_n (pc := 43) C dX8_restore_43 rfl ?_
      refine r_getr (pc := 44) C fX8_39 dX8_restore_44 (s_0 _) rfl rfl ?_
      refine q_vVf (pc := 47) C kX8_121 dX8_restore_47 (c_X0_forget) (s_25 _) rfl rfl (Nat.le_of_ble_eq_true rfl) (by decide) ⟨by decide, by decide⟩ ?_
      refine r_iconst (pc := 50) C (1) dX8_restore_50 (by decide) ?_
      refine q_iret (pc := 51) C dX8_restore_51 rfl ?_
      refine ⟨by simp [R_restore, c9, tj, c24], ?_⟩
      simp only [PoRest]
      rw [if_pos c9, tj, if_neg c24]
      exact ⟨n, L, g, w, rfl⟩
    · refine r_ldc (pc := 27) C (-1000002) kX8_143 dX8_restore_27 ?_
      refine q_iret (pc := 29) C dX8_restore_29 rfl ?_
      exact ⟨by simp [R_restore, c9, tj, c24], by simp [PoRest, c9, tj, c24]⟩
  · replace c9 := b1_0 c9
    refine r_ldc (pc := 12) C (-1000001) kX8_62 dX8_restore_12 ?_
    refine q_iret (pc := 14) C dX8_restore_14 rfl ?_
    exact ⟨by simp [R_restore, c9], by simp [PoRest, c9]⟩
def PoUndo (f : MM) (a q : Nat) (g2 : MM) : Prop := (a = 0 → g2 = f) ∧ (0 < a → f (102 + 10 * ((q + 24 - 1) % 24)) 2 = 1 ∧ ∃ n L g, WayIs f (102 + 10 * ((q + 24 - 1) % 24)) (fun t => f 93 (56 * (a - 1) + t)) n L g ∧ g2 = u2 (u2 (C_wbec f 4 (102 + 10 * ((q + 24 - 1) % 24)) n) 25 1 (nI ((q + 24 - 1) % 24))) 25 2 (nI (a - 1)))
theorem ActI.last {kn : Nat} {f : MM} {a q : Nat} (A : ActI kn f a q) (h : 0 < a) : ((q + 24 - 1) % 24) < kn ∧ f (102 + 10 * ((q + 24 - 1) % 24)) 2 = 1 ∧ ∃ n L g, WayIs f (102 + 10 * ((q + 24 - 1) % 24)) (fun t => f 93 (56 * (a - 1) + t)) n L g := by
  obtain ⟨b1, b2, b3, b4, b5⟩ := A
  have e : rg q a (a - 1) = ((q + 24 - 1) % 24) := by unfold rg; rw [show q + 24 - a + (a - 1) = q + 24 - 1 by omega]
  have c := b5 (a - 1) (by omega)
  rw [e] at c
  refine ⟨?_, c⟩
  by_cases z : kn < 24
  · have := b2 z
    omega
  · have : ((q + 24 - 1) % 24) < 24 := Nat.mod_lt _ (by decide)
    omega
set_option maxRecDepth 100000 in
set_option maxHeartbeats 4000000 in
theorem c_X8_undo {G : GG} {kn : Nat} {f : MM} {a q : Nat} (A : ActI kn f a q) : RI G mX8_undo 5 kn [.ref (G.1 + 0)] f (fun v g2 => v = (R_undo f a).1 ∧ PoUndo f a q g2) := by
  refine Ct.of [some (.ref (G.1 + 0))] rfl (by decide +kernel) rfl (Nat.le_of_ble_eq_true rfl) rfl ?_
  intro X C
  obtain ⟨b1, b2, b3, b4, b5⟩ := id A
  refine r_aload_n (pc := 0) C dX8_undo_0 rfl ?_
  refine r_getr (pc := 1) C fX8_39 dX8_undo_1 (s_0 _) rfl rfl ?_
  refine r_get (pc := 4) C fX8_170 dX8_undo_4 (s_25 _) rfl ?_
  refine q_is (a) b3.2.1 ?_
  refine r_if_ne (pc := 7) C 13 dX8_undo_7 (by decide) (fun c7 => ?_) (fun c7 => ?_)
  · have a0 : ¬ a = 0 := fun z => c7 ((nIz (by omega)).mpr z)
    obtain ⟨hp, h2, n, L, g, w⟩ := A.last (by omega)
    refine r_aload_n (pc := 13) C dX8_undo_13 rfl ?_
    refine r_getr (pc := 14) C fX8_39 dX8_undo_14 (s_0 _) rfl rfl ?_
    refine r_aload_n (pc := 17) C dX8_undo_17 rfl ?_
    refine r_getr (pc := 18) C fX8_25 dX8_undo_18 (s_0 _) rfl rfl ?_
    refine q_vVf (pc := 21) C kX8_171 dX8_undo_21 (c_X0_takeBack (n := n) b1.2.1 b3.1 b3.2.1 (by omega) b1.1 hp w.1.1 w.2.2.1.1 (Or.inr h2)) (s_25 _) rfl rfl (Nat.le_of_ble_eq_true rfl) (by decide) ⟨by decide, by decide⟩ ?_
    refine r_aload_n (pc := 24) C dX8_undo_24 rfl ?_
    refine r_getr (pc := 25) C fX8_39 dX8_undo_25 (s_0 _) rfl rfl ?_
    refine r_get (pc := 28) C fX8_170 dX8_undo_28 (s_25 _) rfl ?_
    refine q_iret (pc := 31) C dX8_undo_31 rfl ?_
    refine ⟨by simp [R_undo, a0, u2], fun z => absurd z a0, fun _ => ⟨h2, n, L, g, w, rfl⟩⟩
  · have a0 : a = 0 := (nIz (by omega)).mp c7
    refine r_ldc (pc := 10) C (-1000002) kX8_143 dX8_undo_10 ?_
    refine q_iret (pc := 12) C dX8_undo_12 rfl ?_
    exact ⟨by simp [R_undo, a0], fun _ => rfl, fun z => by omega⟩
def PoWayC (f : MM) (S : PR) (v : Int32) (g2 : MM) : Prop := (S.1 ≠ 0 ∧ v = -1000100 - nI S.2.1 ∧ agI f g2 ∧ g2 2 1 = 0 ∧ g2 2 8 = nI S.1) ∨ (S.1 = 0 ∧ v = S.2.2 13 ∧ ∃ g n, agI f g ∧ g 2 1 = 0 ∧ g 2 8 = f 2 8 ∧ g 14 2 = 1 ∧ (n ≤ 6 ∧ WkOK g n S.2.2) ∧ SpOK g S.2.2 ∧ g2 = u2 (C_wbec g 4 14 n) 25 2 0)
set_option maxRecDepth 100000 in
set_option maxHeartbeats 4000000 in
theorem c_X8_way {G : GG} {kn : Nat} {f : MM} {len : Nat} (hlen : len ≤ 120) (e3 : f 3 = f 91) (el : f 2 1 = nI len) : RI G mX8_way 7 kn [.ref (G.1 + 0)] f (fun v g2 => PoWayC f (parseS (f 91) len (fun t => if t < 56 then 0 else f 92 t)) v g2) := by
  refine Ct.of [some (.ref (G.1 + 0))] rfl (by decide +kernel) rfl (Nat.le_of_ble_eq_true rfl) rfl ?_
  intro X C
  refine r_aload_n (pc := 0) C dX8_way_0 rfl ?_
  refine r_getr (pc := 1) C fX8_18 dX8_way_1 (s_0 _) rfl rfl ?_
  refine r_aload_n (pc := 4) C dX8_way_4 rfl ?_
  refine r_getr (pc := 5) C fX8_29 dX8_way_5 (s_0 _) rfl rfl ?_
  refine q_vI (pc := 8) C kX8_109 dX8_way_8 (c_X4_readInto (tp := f 91) (len := len) (rd := fun t => if t < 56 then 0 else f 92 t) hlen e3 el rfl) (s_2 _) rfl rfl (Nat.le_of_ble_eq_true rfl) (by decide) ⟨by decide, by decide⟩ ?_
  intro v8 f8 h8
  obtain ⟨aI, el0, hv⟩ := h8
  rcases hv with ⟨z, rfl, p7, p8⟩ | ⟨z, rfl, p8, p14, sp⟩
  · skip
    refine r_if_ne (pc := 11) C 25 dX8_way_11 (by decide) (fun c11 => ?_) (fun c11 => ?_)
    · exact absurd rfl c11
    · refine r_ldc (pc := 14) C (-1000100) kX8_113 dX8_way_14 ?_
      refine r_aload_n (pc := 16) C dX8_way_16 rfl ?_
      refine r_getr (pc := 17) C fX8_18 dX8_way_17 (s_0 _) rfl rfl ?_
      refine r_get (pc := 20) C fX8_114 dX8_way_20 (s_2 _) rfl ?_
      refine q_val (nI (parseS (f 91) len (fun t => if t < 56 then 0 else f 92 t)).2.1) p7 ?_
      refine r_isub (pc := 23) C dX8_way_23 ?_
      refine q_iret (pc := 24) C dX8_way_24 rfl ?_
      exact Or.inl ⟨z, rfl, aI, el0, p8⟩
  · obtain ⟨n, L, hn, hL1, hL8, hLg, hRu, hWk⟩ := id sp
    refine r_if_ne (pc := 11) C 25 dX8_way_11 (by decide) (fun c11 => ?_) (fun c11 => ?_)
    · refine r_aload_n (pc := 25) C dX8_way_25 rfl ?_
      refine r_getr (pc := 26) C fX8_25 dX8_way_26 (s_0 _) rfl rfl ?_
      refine r_aload_n (pc := 29) C dX8_way_29 rfl ?_
      refine r_getr (pc := 30) C fX8_29 dX8_way_30 (s_0 _) rfl rfl ?_
      refine q_vVf (pc := 33) C kX8_117 dX8_way_33 (c_X7_become (n := n) isW.now isW.spare (by omega) hn hWk.1 (Or.inr p14)) (w_0 isW.now) rfl rfl (Nat.le_of_ble_eq_true rfl) (by decide) ⟨by decide, by decide⟩ ?_
      refine r_aload_n (pc := 36) C dX8_way_36 rfl ?_
      refine r_getr (pc := 37) C fX8_39 dX8_way_37 (s_0 _) rfl rfl ?_
      refine q_vVf (pc := 40) C kX8_121 dX8_way_40 (c_X0_forget) (s_25 _) rfl rfl (Nat.le_of_ble_eq_true rfl) (by decide) ⟨by decide, by decide⟩ ?_
      refine r_aload_n (pc := 43) C dX8_way_43 rfl ?_
      refine r_getr (pc := 44) C fX8_25 dX8_way_44 (s_0 _) rfl rfl ?_
      refine r_getr (pc := 47) C fX8_124 dX8_way_47 (w_0 isW.now) rfl (w_t1 isW.now) ?_
      refine r_get (pc := 50) C fX8_128 dX8_way_50 (p_0 (isP.way isW.now)) rfl ?_
      refine q_iret (pc := 53) C dX8_way_53 rfl ?_
      refine Or.inr ⟨z, ?_, f8, n, aI, el0, p8, p14, ⟨hn, hWk⟩, sp, rfl⟩
      rw [u2_row (by decide)]
      show C_wbec f8 4 14 n 6 1 = _
      rw [hWk.2.1, C_wbec, C_pbec_0.1, up_ne (by decide), up_ne (by decide)]
      exact hWk.1
    · exact absurd c11 (by decide)
abbrev pK (post : Nat → Int32 → MM → Prop) : PoT := fun r N sh g => ∃ (kn' : Nat) (v : Int32), r = some (.int v) ∧ N = NN kn' ∧ sh = shF kn' ∧ post kn' v g
def KeepK (kn kn' q : Nat) : Prop := kn' ≤ 24 ∧ q < kn' ∧ ((kn' = kn ∧ q < kn) ∨ (kn' = kn + 1 ∧ q = kn))
theorem ActI.qk {kn : Nat} {f : MM} {a q : Nat} (A : ActI kn f a q) : q ≤ kn := by
  obtain ⟨b1, b2, -⟩ := A
  by_cases z : kn < 24
  · exact (b2 z).2
  · omega
theorem keptF_ne {f : MM} {q n a k : Nat} (hn : n ≤ 6) (h : k ≠ 25) (h2 : k < 102 + 10 * q ∨ 102 + 10 * q + 10 ≤ k) : keptF f q n a k = f k := by
  unfold keptF
  rw [u2_row h, u2_row h, C_wbec_ne hn (by omega)]
def PoGo (kn : Nat) (f : MM) (n L g a q : Nat) (kn' : Nat) (v : Int32) (g2 : MM) : Prop := v = (R_go f n L g a).1 ∧ (((f 85 4 = 0 ∨ g = L) ∧ kn' = kn ∧ g2 = f) ∨ (¬ f 85 4 = 0 ∧ ¬ g = L ∧ KeepK kn kn' q ∧ ∃ f0, (∀ k, k < NN kn → f0 k = f k) ∧ g2 = u2 (C_move (keptF f0 q n a) 4 6 n L g (f 89 10) (f 89 11)) 4 4 (nI (g + 1))))
def PoRule (kn : Nat) (f : MM) (n a q : Nat) (r m : Int32) (kn' : Nat) (v : Int32) (g2 : MM) : Prop := v = (R_rule f a r m).1 ∧ ((¬ (¬ f 85 4 = 0 ∧ inR r 4 = true ∧ inR m 31 = true) ∧ kn' = kn ∧ g2 = f) ∨ (¬ f 85 4 = 0 ∧ inR r 4 = true ∧ inR m 31 = true ∧ KeepK kn kn' q ∧ ∃ f0, (∀ k, k < NN kn → f0 k = f k) ∧ g2 = u2 (u2 (keptF f0 q n a) 4 5 r) 4 6 m))
def giveOK (f : MM) (n : Nat) (x y : Int32) : Prop := inR x n = true ∧ inR y n = true ∧ ¬ x = y ∧ f 89 (26 + tn x) + f 89 (26 + tn y) ≤ 20
def PoGive (kn : Nat) (f : MM) (n a q : Nat) (x y : Int32) (kn' : Nat) (v : Int32) (g2 : MM) : Prop := v = (R_give f n a x y).1 ∧ ((¬ giveOK f n x y ∧ kn' = kn ∧ g2 = f) ∨ (giveOK f n x y ∧ KeepK kn kn' q ∧ ∃ f0, (∀ k, k < NN kn → f0 k = f k) ∧ g2 = u2 (u2 (keptF f0 q n a) (6 + 2 + tn x) 2 0) (6 + 2 + tn y) 2 (f 89 (26 + tn x) + f 89 (26 + tn y))))
set_option maxRecDepth 100000 in
set_option maxHeartbeats 4000000 in
theorem c_X8_go {G : GG} {kn : Nat} {f : MM} {n L g : Nat} (W : WayIs f 4 (f 89) n L g) (hT : ITold f) {a q : Nat} (A : ActI kn f a q) : Ct G mX8_go 5 10 67 [.ref (G.1 + 0)] (NN kn) (shF kn) f (pK (PoGo kn f n L g a q)) := by
  refine Ct.of [some (.ref (G.1 + 0))] rfl (by decide +kernel) rfl (Nat.le_of_ble_eq_true rfl) rfl ?_
  intro X C
  have N := W.now
  have hn6 := N.hn
  have hL8 := N.hL
  have hgL := N.hg
  have hc := N.pt.2.2.1
  have hwy := N.wy.2
  obtain ⟨b1, b2, b3, b4, b5⟩ := id A
  refine r_aload_n (pc := 0) C dX8_go_0 rfl ?_
  refine r_getr (pc := 1) C fX8_25 dX8_go_1 (s_0 _) rfl rfl ?_
  refine r_get (pc := 4) C fX8_134 dX8_go_4 (w_0 isW.now) rfl ?_
  refine q_val (f 85 4) hT.1 ?_
  refine r_if_eq (pc := 7) C 27 dX8_go_7 (by decide) (fun c7 => ?_) (fun c7 => ?_)
  · refine r_ldc (pc := 27) C (-1000002) kX8_143 dX8_go_27 ?_
    refine r_iret (pc := 29) C dX8_go_29 rfl ⟨by decide, by decide⟩ ?_
    refine ⟨kn, _, rfl, rfl, rfl, ?_, Or.inl ⟨?_, rfl, rfl⟩⟩
    · simp [R_go, c7]
    · simp [*]
  · refine r_aload_n (pc := 10) C dX8_go_10 rfl ?_
    refine r_getr (pc := 11) C fX8_25 dX8_go_11 (s_0 _) rfl rfl ?_
    refine r_get (pc := 14) C fX8_137 dX8_go_14 (w_0 isW.now) rfl ?_
    refine r_aload_n (pc := 17) C dX8_go_17 rfl ?_
    refine r_getr (pc := 18) C fX8_25 dX8_go_18 (s_0 _) rfl rfl ?_
    refine r_get (pc := 21) C fX8_140 dX8_go_21 (w_0 isW.now) rfl ?_
    refine q_lt (pc := 24) C g L 30 N.gt N.wy.1 (by omega) (by omega) dX8_go_24 (by decide) (fun c24 => ?_) (fun c24 => ?_)
    · have gl : ¬ g = L := by omega
      refine r_aload_n (pc := 30) C dX8_go_30 rfl ?_
      refine r_getr (pc := 31) C fX8_39 dX8_go_31 (s_0 _) rfl rfl ?_
      refine r_aload_n (pc := 34) C dX8_go_34 rfl ?_
      refine r_getr (pc := 35) C fX8_25 dX8_go_35 (s_0 _) rfl rfl ?_
      refine r_callv (pc := 38) C kX8_144 dX8_go_38 (c_X0_keep (n := n) b1.2.2 b1.2.1 A.qk b3.1 b3.2.1 b1.1 hn6 N.pt.1 hT.2) (s_25 _) rfl rfl (Nat.le_of_ble_eq_true rfl) (by decide) ⟨by decide, by decide⟩ (fun r0 N0 sh0 k1 hk => ?_)
      obtain ⟨kn2, rfl, rfl, rfl, kk1, kk2, kk3, f0, hf0, rfl⟩ := hk
      have hN102 : ∀ k, k < 102 → k < NN kn := fun k hk => by unfold NN; omega
      have e0 : ∀ k, k < 102 → k ≠ 25 → keptF f0 q n a k = f k := fun k h1 h2 => by rw [keptF_ne hn6 h2 (by omega), hf0 k (hN102 k h1)]
      refine r_aload_n (pc := 41) C dX8_go_41 rfl ?_
      refine r_getr (pc := 42) C fX8_25 dX8_go_42 (s_0 _) rfl rfl ?_
      refine r_aload_n (pc := 45) C dX8_go_45 rfl ?_
      refine r_getr (pc := 46) C fX8_25 dX8_go_46 (s_0 _) rfl rfl ?_
      refine r_getr (pc := 49) C fX8_124 dX8_go_49 (w_0 isW.now) rfl (w_t1 isW.now) ?_
      refine r_aload_n (pc := 52) C dX8_go_52 rfl ?_
      refine r_getr (pc := 53) C fX8_25 dX8_go_53 (s_0 _) rfl rfl ?_
      refine r_get (pc := 56) C fX8_137 dX8_go_56 (w_0 isW.now) rfl ?_
      refine q_is g (by rw [e0 4 (by omega) (by omega)]; exact N.gt) ?_
      refine r_aload_n (pc := 59) C dX8_go_59 rfl ?_
      refine r_getr (pc := 60) C fX8_25 dX8_go_60 (s_0 _) rfl rfl ?_
      refine r_get (pc := 63) C fX8_147 dX8_go_63 (w_0 isW.now) rfl ?_
      refine q_val (f 89 10) (by rw [e0 4 (by omega) (by omega)]; exact N.ru) ?_
      refine r_aload_n (pc := 66) C dX8_go_66 rfl ?_
      refine r_getr (pc := 67) C fX8_25 dX8_go_67 (s_0 _) rfl rfl ?_
      refine r_get (pc := 70) C fX8_150 dX8_go_70 (w_0 isW.now) rfl ?_
      refine q_val (f 89 11) (by rw [e0 4 (by omega) (by omega)]; exact N.mi) ?_
      refine q_vVf (pc := 73) C kX8_153 dX8_go_73 (c_X7_move (n := n) (L := L) (leg := g) isW.now (isP.way isW.now) hn6 (by omega) hL8 (by rw [e0 6 (by omega) (by omega)]; exact N.pt.1) (by rw [e0 4 (by omega) (by omega)]; exact N.wy.1) (fun w hw _ => by rw [e0 (6 + 2 + w) (by omega) (by omega)]; exact (N.pt.2.2.2 w hw).fit (by omega))) (w_0 isW.now) rfl rfl (Nat.le_of_ble_eq_true rfl) (by decide) ⟨by decide, by decide⟩ ?_
      refine r_aload_n (pc := 76) C dX8_go_76 rfl ?_
      refine r_getr (pc := 77) C fX8_25 dX8_go_77 (s_0 _) rfl rfl ?_
      refine r_dup (pc := 80) C dX8_go_80 rfl ?_
      refine r_get (pc := 81) C fX8_137 dX8_go_81 (w_0 isW.now) rfl ?_
      refine r_iconst (pc := 84) C (1) dX8_go_84 (by decide) ?_
      refine r_iadd (pc := 85) C dX8_go_85 ?_
      refine q_is (g + 1) (nI_addE (by rw [C_move_p (by omega), e0 4 (by omega) (by omega)]; exact N.gt) rfl) ?_
      refine r_put (pc := 86) C fX8_137 ftX7_4 dX8_go_86 (w_0 isW.now) rfl ?_
      refine r_aload_n (pc := 89) C dX8_go_89 rfl ?_
      refine r_getr (pc := 90) C fX8_25 dX8_go_90 (s_0 _) rfl rfl ?_
      refine r_get (pc := 93) C fX8_137 dX8_go_93 (w_0 isW.now) rfl ?_
      refine r_iret (pc := 96) C dX8_go_96 rfl ⟨by decide, by decide⟩ ?_
      refine ⟨kn2, _, rfl, rfl, rfl, ?_, Or.inr ⟨c7, gl, ⟨kk1, kk2, kk3⟩, f0, hf0, rfl⟩⟩
      simp [R_go, u2, c7, gl]
    · have gl : g = L := by omega
      refine r_ldc (pc := 27) C (-1000002) kX8_143 dX8_go_27 ?_
      refine r_iret (pc := 29) C dX8_go_29 rfl ⟨by decide, by decide⟩ ?_
      refine ⟨kn, _, rfl, rfl, rfl, ?_, Or.inl ⟨?_, rfl, rfl⟩⟩
      · simp [R_go, c7, gl]
      · simp [*]
set_option maxRecDepth 100000 in
set_option maxHeartbeats 4000000 in
theorem c_X8_rule {G : GG} {kn : Nat} {f : MM} {n L g : Nat} (W : WayIs f 4 (f 89) n L g) (hT : ITold f) {a q : Nat} (A : ActI kn f a q) {x y : Int32} : Ct G mX8_rule 5 10 67 [.ref (G.1 + 0), .int x, .int y] (NN kn) (shF kn) f (pK (PoRule kn f n a q x y)) := by
  refine Ct.of [some (.ref (G.1 + 0)), some (.int x), some (.int y), none] rfl (by decide +kernel) rfl (Nat.le_of_ble_eq_true rfl) rfl ?_
  intro X C
  have N := W.now
  have hn6 := N.hn
  have hL8 := N.hL
  have hgL := N.hg
  have hc := N.pt.2.2.1
  have hwy := N.wy.2
  obtain ⟨b1, b2, b3, b4, b5⟩ := id A
  refine r_aload_n (pc := 0) C dX8_rule_0 rfl ?_
  refine r_getr (pc := 1) C fX8_25 dX8_rule_1 (s_0 _) rfl rfl ?_
  refine r_get (pc := 4) C fX8_134 dX8_rule_4 (w_0 isW.now) rfl ?_
  refine q_val (f 85 4) hT.1 ?_
  refine r_if_ne (pc := 7) C 13 dX8_rule_7 (by decide) (fun c7 => ?_) (fun c7 => ?_)
  · refine r_iload_n (pc := 13) C dX8_rule_13 rfl ?_
    refine r_iconst (pc := 14) C (4) dX8_rule_14 (by decide) ?_
    refine q_sIf (pc := 15) C kX8_58 dX8_rule_15 (c_blw 4 rfl (by decide)) rfl rfl (Nat.le_of_ble_eq_true rfl) (by decide) ⟨by decide, by decide⟩ ?_
    refine r_if_eq (pc := 18) C 30 dX8_rule_18 (by decide) (fun c18 => ?_) (fun c18 => ?_)
    · replace c18 := b1_0 c18
      refine r_ldc (pc := 30) C (-1000001) kX8_62 dX8_rule_30 ?_
      refine r_iret (pc := 32) C dX8_rule_32 rfl ⟨by decide, by decide⟩ ?_
      refine ⟨kn, _, rfl, rfl, rfl, ?_, Or.inl ⟨?_, rfl, rfl⟩⟩
      · simp [R_rule, c7, c18]
      · simp [*]
    · replace c18 := b1_1 c18
      refine r_iload_n (pc := 21) C dX8_rule_21 rfl ?_
      refine r_bipush (pc := 22) C (31) dX8_rule_22 (by decide) ?_
      refine q_sIf (pc := 24) C kX8_58 dX8_rule_24 (c_blw 31 rfl (by decide)) rfl rfl (Nat.le_of_ble_eq_true rfl) (by decide) ⟨by decide, by decide⟩ ?_
      refine r_if_ne (pc := 27) C 33 dX8_rule_27 (by decide) (fun c27 => ?_) (fun c27 => ?_)
      · replace c27 := b1_1 c27
        refine r_bipush (pc := 33) C (31) dX8_rule_33 (by decide) ?_
        refine r_aload_n (pc := 35) C dX8_rule_35 rfl ?_
        refine r_getr (pc := 36) C fX8_25 dX8_rule_36 (s_0 _) rfl rfl ?_
        refine r_get (pc := 39) C fX8_147 dX8_rule_39 (w_0 isW.now) rfl ?_
        refine q_val (f 89 10) N.ru ?_
        refine r_imul (pc := 42) C dX8_rule_42 ?_
        refine r_aload_n (pc := 43) C dX8_rule_43 rfl ?_
        refine r_getr (pc := 44) C fX8_25 dX8_rule_44 (s_0 _) rfl rfl ?_
        refine r_get (pc := 47) C fX8_150 dX8_rule_47 (w_0 isW.now) rfl ?_
        refine q_val (f 89 11) N.mi ?_
        refine r_iadd (pc := 50) C dX8_rule_50 ?_
        refine r_istore_n (pc := 51) C dX8_rule_51 (by decide) rfl ?_
        refine r_aload_n (pc := 52) C dX8_rule_52 rfl ?_
        refine r_getr (pc := 53) C fX8_39 dX8_rule_53 (s_0 _) rfl rfl ?_
        refine r_aload_n (pc := 56) C dX8_rule_56 rfl ?_
        refine r_getr (pc := 57) C fX8_25 dX8_rule_57 (s_0 _) rfl rfl ?_
        refine r_callv (pc := 60) C kX8_144 dX8_rule_60 (c_X0_keep (n := n) b1.2.2 b1.2.1 A.qk b3.1 b3.2.1 b1.1 hn6 N.pt.1 hT.2) (s_25 _) rfl rfl (Nat.le_of_ble_eq_true rfl) (by decide) ⟨by decide, by decide⟩ (fun r0 N0 sh0 k1 hk => ?_)
        obtain ⟨kn2, rfl, rfl, rfl, kk1, kk2, kk3, f0, hf0, rfl⟩ := hk
        have hN102 : ∀ k, k < 102 → k < NN kn := fun k hk => by unfold NN; omega
        have e0 : ∀ k, k < 102 → k ≠ 25 → keptF f0 q n a k = f k := fun k h1 h2 => by rw [keptF_ne hn6 h2 (by omega), hf0 k (hN102 k h1)]
        refine r_aload_n (pc := 63) C dX8_rule_63 rfl ?_
        refine r_getr (pc := 64) C fX8_25 dX8_rule_64 (s_0 _) rfl rfl ?_
        refine r_iload_n (pc := 67) C dX8_rule_67 rfl ?_
        refine r_put (pc := 68) C fX8_147 ftX7_5 dX8_rule_68 (w_0 isW.now) rfl ?_
        refine r_aload_n (pc := 71) C dX8_rule_71 rfl ?_
        refine r_getr (pc := 72) C fX8_25 dX8_rule_72 (s_0 _) rfl rfl ?_
        refine r_iload_n (pc := 75) C dX8_rule_75 rfl ?_
        refine r_put (pc := 76) C fX8_150 ftX7_6 dX8_rule_76 (w_0 isW.now) rfl ?_
        refine r_iload_n (pc := 79) C dX8_rule_79 rfl ?_
        refine r_iret (pc := 80) C dX8_rule_80 rfl ⟨by decide, by decide⟩ ?_
        refine ⟨kn2, _, rfl, rfl, rfl, ?_, Or.inr ⟨c7, c18, c27, ⟨kk1, kk2, kk3⟩, f0, hf0, rfl⟩⟩
        simp [R_rule, c7, c18, c27]
      · replace c27 := b1_0 c27
        refine r_ldc (pc := 30) C (-1000001) kX8_62 dX8_rule_30 ?_
        refine r_iret (pc := 32) C dX8_rule_32 rfl ⟨by decide, by decide⟩ ?_
        refine ⟨kn, _, rfl, rfl, rfl, ?_, Or.inl ⟨?_, rfl, rfl⟩⟩
        · simp [R_rule, c7, c18, c27]
        · simp [*]
  · refine r_ldc (pc := 10) C (-1000002) kX8_143 dX8_rule_10 ?_
    refine r_iret (pc := 12) C dX8_rule_12 rfl ⟨by decide, by decide⟩ ?_
    refine ⟨kn, _, rfl, rfl, rfl, ?_, Or.inl ⟨?_, rfl, rfl⟩⟩
    · simp [R_rule, c7]
    · simp [*]
set_option maxRecDepth 100000 in
set_option maxHeartbeats 4000000 in
theorem c_X8_give {G : GG} {kn : Nat} {f : MM} {n L g : Nat} (W : WayIs f 4 (f 89) n L g) (hT : ITold f) {a q : Nat} (A : ActI kn f a q) {x y : Int32} : Ct G mX8_give 5 10 67 [.ref (G.1 + 0), .int x, .int y] (NN kn) (shF kn) f (pK (PoGive kn f n a q x y)) := by
  refine Ct.of [some (.ref (G.1 + 0)), some (.int x), some (.int y), none, none, none] rfl (by decide +kernel) rfl (Nat.le_of_ble_eq_true rfl) rfl ?_
  intro X C
  have N := W.now
  have hn6 := N.hn
  have hL8 := N.hL
  have hgL := N.hg
  have hc := N.pt.2.2.1
  have hwy := N.wy.2
  obtain ⟨b1, b2, b3, b4, b5⟩ := id A
  refine r_aload_n (pc := 0) C dX8_give_0 rfl ?_
  refine r_iload_n (pc := 1) C dX8_give_1 rfl ?_
  refine q_vIf (pc := 2) C kX8_157 dX8_give_2 (c_X8_isWalker (n := n) hn6 N.pt.1) (s_0 _) rfl rfl (Nat.le_of_ble_eq_true rfl) (by decide) ⟨by decide, by decide⟩ ?_
  refine r_if_eq (pc := 5) C 21 dX8_give_5 (by decide) (fun c5 => ?_) (fun c5 => ?_)
  · replace c5 := b1_0 c5
    refine r_ldc (pc := 21) C (-1000001) kX8_62 dX8_give_21 ?_
    refine r_iret (pc := 23) C dX8_give_23 rfl ⟨by decide, by decide⟩ ?_
    refine ⟨kn, _, rfl, rfl, rfl, ?_, Or.inl ⟨?_, rfl, rfl⟩⟩
    · simp [R_give, c5]
    · simp [giveOK, c5]
  · replace c5 := b1_1 c5
    obtain ⟨w, hw, rfl⟩ := inR_of c5
    have tw : tn (nI w) = w := tn_nI (by omega)
    refine r_aload_n (pc := 8) C dX8_give_8 rfl ?_
    refine r_iload_n (pc := 9) C dX8_give_9 rfl ?_
    refine q_vIf (pc := 10) C kX8_157 dX8_give_10 (c_X8_isWalker (n := n) hn6 N.pt.1) (s_0 _) rfl rfl (Nat.le_of_ble_eq_true rfl) (by decide) ⟨by decide, by decide⟩ ?_
    refine r_if_eq (pc := 13) C 21 dX8_give_13 (by decide) (fun c13 => ?_) (fun c13 => ?_)
    · replace c13 := b1_0 c13
      refine r_ldc (pc := 21) C (-1000001) kX8_62 dX8_give_21 ?_
      refine r_iret (pc := 23) C dX8_give_23 rfl ⟨by decide, by decide⟩ ?_
      refine ⟨kn, _, rfl, rfl, rfl, ?_, Or.inl ⟨?_, rfl, rfl⟩⟩
      · simp [R_give, c5, tw, c13]
      · simp [giveOK, c5, tw, c13]
    · replace c13 := b1_1 c13
      obtain ⟨u, hu, rfl⟩ := inR_of c13
      have tu : tn (nI u) = u := tn_nI (by omega)
      refine r_iload_n (pc := 16) C dX8_give_16 rfl ?_
      refine r_iload_n (pc := 17) C dX8_give_17 rfl ?_
      refine r_icmp_ne (pc := 18) C 24 dX8_give_18 (by decide) (fun c18 => ?_) (fun c18 => ?_)
      · refine r_aload_n (pc := 24) C dX8_give_24 rfl ?_
        refine r_getr (pc := 25) C fX8_25 dX8_give_25 (s_0 _) rfl rfl ?_
        refine r_getr (pc := 28) C fX8_124 dX8_give_28 (w_0 isW.now) rfl (w_t1 isW.now) ?_
        refine r_getr (pc := 31) C fX8_161 dX8_give_31 (p_0 (isP.way isW.now)) rfl (p_t0 (isP.way isW.now)) ?_
        refine r_iload_n (pc := 34) C dX8_give_34 rfl ?_
        refine q_aald (pc := 35) C w dX8_give_35 (p_1 (isP.way isW.now)) (by decide) (p_1n (isP.way isW.now)) rfl (by omega) (by decide) (p_1t (isP.way isW.now) (by omega)) ?_
        refine r_astore_n (pc := 36) C dX8_give_36 (by decide) rfl ?_
        refine r_aload_n (pc := 37) C dX8_give_37 rfl ?_
        refine r_getr (pc := 38) C fX8_25 dX8_give_38 (s_0 _) rfl rfl ?_
        refine r_getr (pc := 41) C fX8_124 dX8_give_41 (w_0 isW.now) rfl (w_t1 isW.now) ?_
        refine r_getr (pc := 44) C fX8_161 dX8_give_44 (p_0 (isP.way isW.now)) rfl (p_t0 (isP.way isW.now)) ?_
        refine r_iload_n (pc := 47) C dX8_give_47 rfl ?_
        refine q_aald (pc := 48) C u dX8_give_48 (p_1 (isP.way isW.now)) (by decide) (p_1n (isP.way isW.now)) rfl (by omega) (by decide) (p_1t (isP.way isW.now) (by omega)) ?_
        refine r_astore (pc := 49) C dX8_give_49 (by decide) rfl ?_
        refine r_aload_n (pc := 51) C dX8_give_51 rfl ?_
        refine r_get (pc := 52) C fX8_165 dX8_give_52 (k_0 (isK.of (isP.way isW.now) (by omega))) rfl ?_
        refine q_val (f 89 (26 + w)) (hc w hw 2 (by decide)) ?_
        refine r_aload (pc := 55) C dX8_give_55 rfl ?_
        refine r_get (pc := 57) C fX8_165 dX8_give_57 (k_0 (isK.of (isP.way isW.now) (by omega))) rfl ?_
        refine q_val (f 89 (26 + u)) (hc u hu 2 (by decide)) ?_
        refine r_iadd (pc := 60) C dX8_give_60 ?_
        refine r_istore (pc := 61) C dX8_give_61 (by decide) rfl ?_
        refine r_iload (pc := 63) C dX8_give_63 rfl ?_
        refine r_bipush (pc := 65) C (20) dX8_give_65 (by decide) ?_
        refine r_icmp_le (pc := 67) C 73 dX8_give_67 (by decide) (fun c67 => ?_) (fun c67 => ?_)
        · refine r_aload_n (pc := 73) C dX8_give_73 rfl ?_
          refine r_getr (pc := 74) C fX8_39 dX8_give_74 (s_0 _) rfl rfl ?_
          refine r_aload_n (pc := 77) C dX8_give_77 rfl ?_
          refine r_getr (pc := 78) C fX8_25 dX8_give_78 (s_0 _) rfl rfl ?_
          refine r_callv (pc := 81) C kX8_144 dX8_give_81 (c_X0_keep (n := n) b1.2.2 b1.2.1 A.qk b3.1 b3.2.1 b1.1 hn6 N.pt.1 hT.2) (s_25 _) rfl rfl (Nat.le_of_ble_eq_true rfl) (by decide) ⟨by decide, by decide⟩ (fun r0 N0 sh0 k1 hk => ?_)
          obtain ⟨kn2, rfl, rfl, rfl, kk1, kk2, kk3, f0, hf0, rfl⟩ := hk
          have hN102 : ∀ k, k < 102 → k < NN kn := fun k hk => by unfold NN; omega
          have e0 : ∀ k, k < 102 → k ≠ 25 → keptF f0 q n a k = f k := fun k h1 h2 => by rw [keptF_ne hn6 h2 (by omega), hf0 k (hN102 k h1)]
          refine r_aload_n (pc := 84) C dX8_give_84 rfl ?_
          refine r_iconst (pc := 85) C (0) dX8_give_85 (by decide) ?_
          refine r_put (pc := 86) C fX8_165 ftX6_2 dX8_give_86 (k_0 (isK.of (isP.way isW.now) (by omega))) rfl ?_
          refine r_aload (pc := 89) C dX8_give_89 rfl ?_
          refine r_iload (pc := 91) C dX8_give_91 rfl ?_
          refine r_put (pc := 93) C fX8_165 ftX6_2 dX8_give_93 (k_0 (isK.of (isP.way isW.now) (by omega))) rfl ?_
          refine r_iload (pc := 96) C dX8_give_96 rfl ?_
          refine r_iret (pc := 98) C dX8_give_98 rfl ⟨by decide, by decide⟩ ?_
          refine ⟨kn2, _, rfl, rfl, rfl, ?_, Or.inr ⟨⟨inR_nI hw (by omega), inR_nI hu (by omega), c18, ?_⟩, ⟨kk1, kk2, kk3⟩, f0, hf0, ?_⟩⟩
          · simp [R_give, c5, tw, c13, tu, c18, c67]
          · rw [tw, tu]; exact c67
          · rw [tw, tu]
        · refine r_ldc (pc := 70) C (-1000003) kX8_105 dX8_give_70 ?_
          refine r_iret (pc := 72) C dX8_give_72 rfl ⟨by decide, by decide⟩ ?_
          refine ⟨kn, _, rfl, rfl, rfl, ?_, Or.inl ⟨?_, rfl, rfl⟩⟩
          · simp [R_give, c5, tw, c13, tu, c18, c67]
          · simp [giveOK, c5, tw, c13, tu, c18, c67]
      · refine r_ldc (pc := 21) C (-1000001) kX8_62 dX8_give_21 ?_
        refine r_iret (pc := 23) C dX8_give_23 rfl ⟨by decide, by decide⟩ ?_
        refine ⟨kn, _, rfl, rfl, rfl, ?_, Or.inl ⟨?_, rfl, rfl⟩⟩
        · simp [R_give, c5, tw, c13, tu, c18]
        · simp [giveOK, c5, tw, c13, tu, c18]
