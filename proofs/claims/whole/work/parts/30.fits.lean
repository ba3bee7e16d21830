/-! THE CLASS: what fits -/
set_option maxRecDepth 100000 in
set_option maxHeartbeats 4000000 in
theorem l_isSo {X : XT} {G : GG} {kn : Nat} {f : MM} {n L g w r i0 N1 cd p : Nat} {it : Nat → Int32} {B0 : Bool} (C : Cx X G mX2_isSo 5 0 0 (NN kn)) (hn : n ≤ 6) (hL : L ≤ 8) (hw : w < n) (hr : r < 8) (hi : i0 + N1 ≤ 40) (hcd : cd < 2000) (h4 : f 4 4 = nI g) (hit : ∀ t, t < N1 → f (50 + 2 * r) (i0 + t) = it (p + t)) : ∀ (m k : Nat) (st : Nat → Int32) (h : MM), k + m = N1 → g + N1 ≤ L → Pt h 28 n (allI n) (g + k) st → Wy h L st → st 10 = nI (cd / 31) → st 11 = nI (cd % 31) → fitI n L w (allI n) it p m k (g + k) st = B0 → agP f h → Vw X G mX2_isSo.2.2.2.1 0 0 (QQ X G (pI kn (fun v g2 => v = b1 B0 ∧ agP f g2)) 0 0) (NN kn) (shF kn) h 14 [some (.ref (G.1 + 27)), some (.ref (G.1 + 4)), some (.int (nI cd)), some (.int (nI w)), some (.ref (G.1 + (49 + 2 * r))), some (.int (nI i0)), some (.int (nI N1)), some (.int (nI k))] [] := by
  intro m
  induction m with
  | zero =>
    intro k st h hm hgN hP hW h10 h11 hB ha
    obtain rfl : N1 = k := by omega
    cases hB
    refine r_iload (pc := 14) C dX2_isSo_14 rfl ?_
    refine r_iload (pc := 16) C dX2_isSo_16 rfl ?_
    refine q_ge (pc := 18) C N1 N1 78 rfl rfl (by omega) (by omega) dX2_isSo_18 (by decide) (fun c18 => ?_) (fun c18 => ?_)
    · refine r_iconst (pc := 78) C (1) dX2_isSo_78 (by decide) ?_
      refine q_zret (pc := 79) C dX2_isSo_79 rfl (Or.inr rfl) ?_
      exact ⟨rfl, ha⟩
    · exact absurd c18 (by omega)
  | succ m ih =>
    intro k st h hm hgN hP hW h10 h11 hB ha
    have mv := move_cR (o := 4) (L := L) hn hP.2.2.1 hP.2.1 (hW.2 (g + k) (by omega)).1 hP.2.2.2 (by omega) (hW.2 (g + k) (by omega)).2 h10 h11 (nI_in30 (by omega))
    have hP2 := hP.move hW hn (by omega) (show g + k < L by omega) h10 h11 (nI_in30 (by omega))
    have ea : agP f (C_move h 4 28 n L (g + k) (nI (cd / 31)) (nI (cd % 31))) := agP_move ha hn
    refine r_iload (pc := 14) C dX2_isSo_14 rfl ?_
    refine r_iload (pc := 16) C dX2_isSo_16 rfl ?_
    refine q_ge (pc := 18) C k N1 78 rfl rfl (by omega) (by omega) dX2_isSo_18 (by decide) (fun c18 => ?_) (fun c18 => ?_)
    · exact absurd c18 (by omega)
    · refine r_aload_n (pc := 21) C dX2_isSo_21 rfl ?_
      refine r_aload_n (pc := 22) C dX2_isSo_22 rfl ?_
      refine r_getr (pc := 23) C fX2_12 dX2_isSo_23 (s_27 _) rfl rfl ?_
      refine r_aload_n (pc := 26) C dX2_isSo_26 rfl ?_
      refine r_get (pc := 27) C fX2_42 dX2_isSo_27 (w_0 isW.now) rfl ?_
      refine r_iload (pc := 30) C dX2_isSo_30 rfl ?_
      refine r_iadd (pc := 32) C dX2_isSo_32 ?_
      refine q_is (g + k) (nI_addE (by rw [ha 4 (by omega)]; exact h4) rfl) ?_
      refine r_iload_n (pc := 33) C dX2_isSo_33 rfl ?_
      refine r_bipush (pc := 34) C (31) dX2_isSo_34 (by decide) ?_
      refine r_idiv (pc := 36) C dX2_isSo_36 (by decide) ?_
      refine q_is (cd / 31) (div31 hcd) ?_
      refine r_iload_n (pc := 37) C dX2_isSo_37 rfl ?_
      refine r_bipush (pc := 38) C (31) dX2_isSo_38 (by decide) ?_
      refine r_irem (pc := 40) C dX2_isSo_40 (by decide) ?_
      refine q_is (cd % 31) (rem31 hcd) ?_
      refine q_vVf (pc := 41) C kX2_49 dX2_isSo_41 (c_X7_move (n := n) (L := L) (leg := g + k) isW.now isP.go hn (by omega) hL hP.1 hW.1 (hP.fit (by omega))) (w_0 isW.now) rfl rfl (Nat.le_of_ble_eq_true rfl) (by decide) ⟨by decide, by decide⟩ ?_
      refine r_aload_n (pc := 44) C dX2_isSo_44 rfl ?_
      refine r_getr (pc := 45) C fX2_12 dX2_isSo_45 (s_27 _) rfl rfl ?_
      refine r_getr (pc := 48) C fX2_81 dX2_isSo_48 (p_0 isP.go) rfl (p_t0 isP.go) ?_
      refine r_iload_n (pc := 51) C dX2_isSo_51 rfl ?_
      refine q_aald (pc := 52) C w dX2_isSo_52 (p_1 isP.go) (by decide) (p_1n isP.go) rfl (by omega) (by decide) (p_1t isP.go (by omega)) ?_
      refine r_get (pc := 53) C fX2_150 dX2_isSo_53 (k_0 (isK.of isP.go (by omega))) rfl ?_
      refine q_val (st (38 + w) + takesS st w (g + k)) (by rw [mv.2 w hw (all_has hn hw), walkP_38 hn hw, if_pos (all_has hn hw)]) ?_
      refine r_aload (pc := 56) C dX2_isSo_56 rfl ?_
      refine r_getr (pc := 58) C fX2_153 dX2_isSo_58 (x_0 hr) rfl (x_t0 hr) ?_
      refine r_iload (pc := 61) C dX2_isSo_61 rfl ?_
      refine r_iload (pc := 63) C dX2_isSo_63 rfl ?_
      refine r_iadd (pc := 65) C dX2_isSo_65 ?_
      refine q_iald (pc := 66) C (i0 + k) dX2_isSo_66 (x_1 hr) (x_1n hr) (nI_add i0 k) (by omega) (by decide) ?_
      refine q_val (it (p + k)) (by rw [ea (50 + 2 * r) (by omega)]; exact hit k (by omega)) ?_
      refine r_icmp_eq (pc := 67) C 72 dX2_isSo_67 (by decide) (fun c67 => ?_) (fun c67 => ?_)
      · refine r_iinc (pc := 72) C (nI (k + 1)) dX2_isSo_72 rfl (nI_inc _) (by decide) rfl ?_
        refine r_goto (pc := 75) C 14 dX2_isSo_75 (by decide) ?_
        refine ih (k + 1) _ _ (by omega) hgN hP2 ((hW.ag (agP_move agP.rf hn).toC).st (fun j hj => goS_lo (by omega) (by omega))) ((goS_lo (by decide) (by decide)).trans h10) ((goS_lo (by decide) (by decide)).trans h11) ?_ ea
        rw [← hB, fitI, decide_eq_true c67, Bool.true_and]
        rfl
      · refine r_iconst (pc := 70) C (0) dX2_isSo_70 (by decide) ?_
        refine q_zret (pc := 71) C dX2_isSo_71 rfl (Or.inl rfl) ?_
        refine ⟨?_, ea⟩
        rw [← hB, fitI, decide_eq_false c67]
        rfl
set_option maxRecDepth 100000 in
set_option maxHeartbeats 4000000 in
theorem c_X2_isSo {G : GG} {kn : Nat} {f : MM} {n L g : Nat} (N : Now f n L g) {w r i0 N1 cd p : Nat} {it : Nat → Int32} (hw : w < n) (hr : r < 8) (hi : i0 + N1 ≤ 40) (hcd : cd < 2000) (hgN : g + N1 ≤ L) (hit : ∀ t, t < N1 → f (50 + 2 * r) (i0 + t) = it (p + t)) : RI G mX2_isSo 5 kn [.ref (G.1 + 27), .ref (G.1 + 4), .int (nI cd), .int (nI w), .ref (G.1 + (49 + 2 * r)), .int (nI i0), .int (nI N1)] f (fun v g2 => v = b1 (fitI n L w (allI n) it p N1 0 g (upd (upd (f 89) 10 (nI (cd / 31))) 11 (nI (cd % 31)))) ∧ agP f g2) := by
  refine Ct.of [some (.ref (G.1 + 27)), some (.ref (G.1 + 4)), some (.int (nI cd)), some (.int (nI w)), some (.ref (G.1 + (49 + 2 * r))), some (.int (nI i0)), some (.int (nI N1)), none] rfl (by decide +kernel) rfl (Nat.le_of_ble_eq_true rfl) rfl ?_
  intro X C
  have hn6 := N.hn
  have hL8 := N.hL
  refine r_aload_n (pc := 0) C dX2_isSo_0 rfl ?_
  refine r_getr (pc := 1) C fX2_12 dX2_isSo_1 (s_27 _) rfl rfl ?_
  refine r_aload_n (pc := 4) C dX2_isSo_4 rfl ?_
  refine r_getr (pc := 5) C fX2_31 dX2_isSo_5 (w_0 isW.now) rfl (w_t1 isW.now) ?_
  refine q_vVf (pc := 8) C kX2_34 dX2_isSo_8 (c_X3_become (n := n) isP.go (isP.way isW.now) (by omega) N.hn N.pt.1) (p_0 isP.go) rfl rfl (Nat.le_of_ble_eq_true rfl) (by decide) ⟨by decide, by decide⟩ ?_
  refine r_iconst (pc := 11) C (0) dX2_isSo_11 (by decide) ?_
  refine r_istore (pc := 12) C dX2_isSo_12 (by decide) rfl ?_
  refine l_isSo (f := f) (n := n) (L := L) (g := g) (p := p) (it := it) C hn6 hL8 hw hr hi hcd N.gt hit N1 0 _ _ (by omega) hgN (N.pt.pbec.st (fun k hk => by rw [upd_ne (by omega), upd_ne (by omega)])) ((N.wy.ag (agP_pbec agP.rf hn6).toC).st (fun j hj => by rw [upd_ne (by omega), upd_ne (by omega)])) (by rw [upd_ne (by decide), upd_at]) upd_at rfl (agP_pbec agP.rf hn6)
def fcI2 (v : Nat → Bool) : Nat → Nat × Int32
  | 0 => (0, -1000000)
  | k + 1 => if apB k = true ∧ v k = true then ((fcI2 v k).1 + 1, if (fcI2 v k).1 = 0 then nI k else (fcI2 v k).2) else fcI2 v k
theorem fcI2_le {v : Nat → Bool} : ∀ k, (fcI2 v k).1 ≤ k := by
  intro k
  induction k with
  | zero => exact Nat.le_refl _
  | succ k ih =>
    unfold fcI2
    split
    · exact Nat.succ_le_succ ih
    · exact Nat.le_succ_of_le ih
theorem ap94 : ∀ k, k < 94 → (apB k = true ↔ (31 ≤ k ∨ k = 0)) := by decide
theorem ap124 : ∀ k, k < 30 → apB (94 + k) = false := by decide
theorem fc_fs {v : Nat → Bool} : ∀ k, k ≤ 94 → fcI2 v k = fsI v k := by
  intro k
  induction k with
  | zero => intro _; rfl
  | succ k ih =>
    intro h
    unfold fcI2 fsI
    rw [ih (by omega)]
    have := ap94 k (by omega)
    simp only [this]
theorem fc_hi {v : Nat → Bool} : ∀ k, k ≤ 30 → fcI2 v (94 + k) = fcI2 v 94 := by
  intro k
  induction k with
  | zero => intro _; rfl
  | succ k ih =>
    intro h
    have e : fcI2 v (94 + (k + 1)) = if apB (94 + k) = true ∧ v (94 + k) = true then ((fcI2 v (94 + k)).1 + 1, if (fcI2 v (94 + k)).1 = 0 then nI (94 + k) else (fcI2 v (94 + k)).2) else fcI2 v (94 + k) := rfl
    rw [e, if_neg (by rw [ap124 k (by omega)]; simp), ih (by omega)]
theorem fc_end {v : Nat → Bool} : fcI2 v n124 = fsI v n94 := by
  have := fc_hi (v := v) 30 (Nat.le_refl _)
  rw [show (94 + 30 : Nat) = n124 from rfl] at this
  rw [this]
  exact fc_fs 94 (Nat.le_refl _)
def fiS (f h : MM) (v : Nat → Bool) (k : Nat) : Prop := agC f h ∧ h 27 5 = nI (fcI2 v k).1 ∧ h 27 6 = (fcI2 v k).2
theorem fiS.no {f h h2 : MM} {v : Nat → Bool} {k : Nat} (a : fiS f h v k) (e : ¬ (apB k = true ∧ v k = true)) (b : agC f h2) (b27 : h2 27 = h 27) : fiS f h2 v (k + 1) := by
  have ec : fcI2 v (k + 1) = fcI2 v k := by
    show (if apB k = true ∧ v k = true then _ else fcI2 v k) = _
    rw [if_neg e]
  refine ⟨b, ?_, ?_⟩
  · rw [ec, b27]; exact a.2.1
  · rw [ec, b27]; exact a.2.2
theorem fiS.yes {f h h2 : MM} {v : Nat → Bool} {k : Nat} {x : Int32} (a : fiS f h v k) (e : apB k = true ∧ v k = true) (b : agC f h2) (hx : x = if (fcI2 v k).1 = 0 then nI k else h 27 6) : fiS f (u2 (u2 h2 27 5 (nI ((fcI2 v k).1 + 1))) 27 6 x) v (k + 1) := by
  have ec : fcI2 v (k + 1) = ((fcI2 v k).1 + 1, if (fcI2 v k).1 = 0 then nI k else (fcI2 v k).2) := by
    show (if apB k = true ∧ v k = true then _ else fcI2 v k) = _
    rw [if_pos e]
  refine ⟨(b.u2 (by omega)).u2 (by omega), ?_, ?_⟩
  · rw [ec]; simp [u2]
  · rw [ec, hx, a.2.2]; simp [u2]
set_option maxRecDepth 100000 in
set_option maxHeartbeats 4000000 in
theorem l_findFits {X : XT} {G : GG} {kn : Nat} {Q : State → Prop} {f : MM} {n L g w r i0 N1 : Nat} (C : Cx X G mX2_findFits 6 0 0 (NN kn)) (N : Now f n L g) (hw : w < n) (hr : r < 8) (hi : i0 + N1 ≤ 40) (hgN : g + N1 ≤ L) (hit : ∀ t, t < N1 → f (50 + 2 * r) (i0 + t) = f 88 (40 * r + i0 + t)) (K : ∀ h : MM, (fun k h => fiS f h (fiV n L g w (f 89) (f 88) (40 * r + i0) N1) k) n124 h → Vw X G mX2_findFits.2.2.2.1 0 0 Q (NN kn) (shF kn) h 82 [some (.ref (G.1 + 27)), some (.ref (G.1 + 4)), some (.int (nI w)), some (.ref (G.1 + (49 + 2 * r))), some (.int (nI i0)), some (.int (nI N1)), some (.int (nI n124))] []) : ∀ (m i : Nat) (h : MM), i + m = n124 → (fun k h => fiS f h (fiV n L g w (f 89) (f 88) (40 * r + i0) N1) k) i h → Vw X G mX2_findFits.2.2.2.1 0 0 Q (NN kn) (shF kn) h 14 [some (.ref (G.1 + 27)), some (.ref (G.1 + 4)), some (.int (nI w)), some (.ref (G.1 + (49 + 2 * r))), some (.int (nI i0)), some (.int (nI N1)), some (.int (nI i))] [] := by
  intro m
  induction m with
  | zero =>
    intro i h hm hh
    obtain rfl : n124 = i := by omega
    have hN := n124_eq
    refine r_iload (pc := 14) C dX2_findFits_14 rfl ?_
    refine r_bipush (pc := 16) C (124) dX2_findFits_16 (by decide) ?_
    refine q_ge (pc := 18) C n124 124 82 rfl rfl (by omega) (by omega) dX2_findFits_18 (by decide) (fun c18 => ?_) (fun c18 => ?_)
    · exact K _ hh
    · exact absurd c18 (by omega)
  | succ m ih =>
    intro i h hm hh
    have hN := n124_eq
    refine r_iload (pc := 14) C dX2_findFits_14 rfl ?_
    refine r_bipush (pc := 16) C (124) dX2_findFits_16 (by decide) ?_
    refine q_ge (pc := 18) C i 124 82 rfl rfl (by omega) (by omega) dX2_findFits_18 (by decide) (fun c18 => ?_) (fun c18 => ?_)
    · exact absurd c18 (by omega)
    · refine r_iload (pc := 21) C dX2_findFits_21 rfl ?_
      refine q_sIf (pc := 23) C kX2_67 dX2_findFits_23 (c_X2_isApart (k := i) (by omega)) rfl rfl (Nat.le_of_ble_eq_true rfl) (by decide) ⟨by decide, by decide⟩ ?_
      refine r_if_eq (pc := 26) C 76 dX2_findFits_26 (by decide) (fun c26 => ?_) (fun c26 => ?_)
      · replace c26 := b1_0 c26
        refine r_iinc (pc := 76) C (nI (i + 1)) dX2_findFits_76 rfl (nI_inc _) (by decide) rfl ?_
        refine r_goto (pc := 79) C 14 dX2_findFits_79 (by decide) ?_
        exact ih (i + 1) _ (by omega) (hh.no (fun q => by rw [c26] at q; cases q.1) hh.1 rfl)
      · replace c26 := b1_1 c26
        refine r_aload_n (pc := 29) C dX2_findFits_29 rfl ?_
        refine r_aload_n (pc := 30) C dX2_findFits_30 rfl ?_
        refine r_iload (pc := 31) C dX2_findFits_31 rfl ?_
        refine r_iload_n (pc := 33) C dX2_findFits_33 rfl ?_
        refine r_aload_n (pc := 34) C dX2_findFits_34 rfl ?_
        refine r_iload (pc := 35) C dX2_findFits_35 rfl ?_
        refine r_iload (pc := 37) C dX2_findFits_37 rfl ?_
        refine q_vI (pc := 39) C kX2_146 dX2_findFits_39 (c_X2_isSo (p := 40 * r + i0) (it := f 88) (N.ag hh.1) hw hr hi (by omega) hgN (fun t ht => by rw [hh.1 (50 + 2 * r) (by omega)]; exact hit t ht)) (s_27 _) rfl rfl (Nat.le_of_ble_eq_true rfl) (by decide) ⟨by decide, by decide⟩ ?_
        intro v39 f39 h39
        obtain ⟨rfl, a39⟩ := h39
        have e27 : f39 27 = h 27 := a39 27 (by omega)
        have hag2 : agC f f39 := hh.1.trans a39.toC
        have hv : fitI n L w (allI n) (f 88) (40 * r + i0) N1 0 g (upd (upd (h 89) 10 (nI (i / 31))) 11 (nI (i % 31))) = (fiV n L g w (f 89) (f 88) (40 * r + i0) N1) i := by rw [hh.1 89 (by omega)]; rfl
        have hcl := fcI2_le (v := (fiV n L g w (f 89) (f 88) (40 * r + i0) N1)) i
        refine r_if_eq (pc := 42) C 76 dX2_findFits_42 (by decide) (fun c42 => ?_) (fun c42 => ?_)
        · replace c42 := b1_0 c42
          refine r_iinc (pc := 76) C (nI (i + 1)) dX2_findFits_76 rfl (nI_inc _) (by decide) rfl ?_
          refine r_goto (pc := 79) C 14 dX2_findFits_79 (by decide) ?_
          exact ih (i + 1) _ (by omega) (hh.no (fun q => by rw [← hv, c42] at q; cases q.2) hag2 e27)
        · replace c42 := b1_1 c42
          refine r_aload_n (pc := 45) C dX2_findFits_45 rfl ?_
          refine r_dup (pc := 46) C dX2_findFits_46 rfl ?_
          refine r_get (pc := 47) C fX2_58 dX2_findFits_47 (s_27 _) rfl ?_
          refine r_iconst (pc := 50) C (1) dX2_findFits_50 (by decide) ?_
          refine r_iadd (pc := 51) C dX2_findFits_51 ?_
          refine q_is ((fcI2 (fiV n L g w (f 89) (f 88) (40 * r + i0) N1) i).1 + 1) (nI_addE (by rw [e27]; exact hh.2.1) rfl) ?_
          refine r_put (pc := 52) C fX2_58 ftX2_5 dX2_findFits_52 (s_27 _) rfl ?_
          refine r_aload_n (pc := 55) C dX2_findFits_55 rfl ?_
          refine r_aload_n (pc := 56) C dX2_findFits_56 rfl ?_
          refine r_get (pc := 57) C fX2_58 dX2_findFits_57 (s_27 _) rfl ?_
          refine r_iconst (pc := 60) C (1) dX2_findFits_60 (by decide) ?_
          refine q_ne (pc := 61) C ((fcI2 (fiV n L g w (f 89) (f 88) (40 * r + i0) N1) i).1 + 1) 1 69 (by simp [u2]) rfl (by omega) (by omega) dX2_findFits_61 (by decide) (fun c61 => ?_) (fun c61 => ?_)
          · refine r_aload_n (pc := 69) C dX2_findFits_69 rfl ?_
            refine r_get (pc := 70) C fX2_61 dX2_findFits_70 (s_27 _) rfl ?_
            refine r_put (pc := 73) C fX2_61 ftX2_6 dX2_findFits_73 (s_27 _) rfl ?_
            refine r_iinc (pc := 76) C (nI (i + 1)) dX2_findFits_76 rfl (nI_inc _) (by decide) rfl ?_
            refine r_goto (pc := 79) C 14 dX2_findFits_79 (by decide) ?_
            refine ih (i + 1) _ (by omega) (hh.yes ⟨c26, hv.symm.trans c42⟩ hag2 ?_)
            first | exact (if_pos (by omega)).symm | (rw [if_neg (by omega)]; simp [u2, e27])
          · refine r_iload (pc := 64) C dX2_findFits_64 rfl ?_
            refine r_goto (pc := 66) C 73 dX2_findFits_66 (by decide) ?_
            refine r_put (pc := 73) C fX2_61 ftX2_6 dX2_findFits_73 (s_27 _) rfl ?_
            refine r_iinc (pc := 76) C (nI (i + 1)) dX2_findFits_76 rfl (nI_inc _) (by decide) rfl ?_
            refine r_goto (pc := 79) C 14 dX2_findFits_79 (by decide) ?_
            refine ih (i + 1) _ (by omega) (hh.yes ⟨c26, hv.symm.trans c42⟩ hag2 ?_)
            first | exact (if_pos (by omega)).symm | (rw [if_neg (by omega)]; simp [u2, e27])
set_option maxRecDepth 100000 in
set_option maxHeartbeats 4000000 in
theorem c_X2_findFits {G : GG} {kn : Nat} {f : MM} {n L g : Nat} (N : Now f n L g) {w r i0 N1 : Nat} (hw : w < n) (hr : r < 8) (hi : i0 + N1 ≤ 40) (hgN : g + N1 ≤ L) (hit : ∀ t, t < N1 → f (50 + 2 * r) (i0 + t) = f 88 (40 * r + i0 + t)) : RV G mX2_findFits 6 kn [.ref (G.1 + 27), .ref (G.1 + 4), .int (nI w), .ref (G.1 + (49 + 2 * r)), .int (nI i0), .int (nI N1)] f (fun g2 => agC f g2 ∧ g2 27 5 = nI (fsI (fiV n L g w (f 89) (f 88) (40 * r + i0) N1) n94).1 ∧ g2 27 6 = (fsI (fiV n L g w (f 89) (f 88) (40 * r + i0) N1) n94).2) := by
  refine Ct.of [some (.ref (G.1 + 27)), some (.ref (G.1 + 4)), some (.int (nI w)), some (.ref (G.1 + (49 + 2 * r))), some (.int (nI i0)), some (.int (nI N1)), none] rfl (by decide +kernel) rfl (Nat.le_of_ble_eq_true rfl) rfl ?_
  intro X C
  refine r_aload_n (pc := 0) C dX2_findFits_0 rfl ?_
  refine r_iconst (pc := 1) C (0) dX2_findFits_1 (by decide) ?_
  refine r_put (pc := 2) C fX2_58 ftX2_5 dX2_findFits_2 (s_27 _) rfl ?_
  refine r_aload_n (pc := 5) C dX2_findFits_5 rfl ?_
  refine r_ldc (pc := 6) C (-1000000) kX2_129 dX2_findFits_6 ?_
  refine r_put (pc := 8) C fX2_61 ftX2_6 dX2_findFits_8 (s_27 _) rfl ?_
  refine r_iconst (pc := 11) C (0) dX2_findFits_11 (by decide) ?_
  refine r_istore (pc := 12) C dX2_findFits_12 (by decide) rfl ?_
  refine l_findFits (f := f) (n := n) (L := L) (g := g) C N hw hr hi hgN hit (fun h hh => ?_) n124 0 _ (Nat.zero_add _) ⟨(agC.rf.u2 (by omega)).u2 (by omega), by simp [u2, fcI2, nI_0], by simp [u2, fcI2]⟩
  refine q_vret (pc := 82) C dX2_findFits_82 rfl ?_
  refine ⟨hh.1, ?_, ?_⟩
  · rw [← fc_end]; exact hh.2.1
  · rw [← fc_end]; exact hh.2.2
