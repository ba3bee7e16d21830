/-! THE REFERENCE: fits -/
def fitI (n L w : Nat) (s : Int32) (it : Nat → Int32) (p : Nat) : Nat → Nat → Nat → (Nat → Int32) → Bool
  | 0, _, _, _ => true
  | m + 1, k, g, st => decide (st (38 + w) + takesS st w g = it (p + k)) && fitI n L w s it p m (k + 1) (g + 1) (goS n L g s st)
set_option maxRecDepth 100000 in
set_option maxHeartbeats 4000000 in
theorem l_fitsBy {X : XT} {G : GG} {kn : Nat} {Q : State → Prop} {f : MM} {n L w p N1 : Nat} {s : Int32} {B0 : Bool} {z : Nat → Int32} (C : Cx X G mX9_fitsBy 5 0 0 (NN kn)) (hn : n ≤ 6) (hL : L ≤ 8) (hw : w < 6) (hp : p + N1 ≤ 320) (hN : N1 ≤ 8) (hs : f 85 16 = s) (K : ∀ st : Nat → Int32, (∀ t, 56 ≤ t → st t = z t) → Vw X G mX9_fitsBy.2.2.2.1 0 0 Q (NN kn) (shF kn) (va_up f 89 st) 102 [some (.ref (G.1 + 85)), some (.int (nI w)), some (.int (nI p)), some (.int (nI N1)), none, none, some (.int (b1 B0)), some (.int (nI N1)), none] []) : ∀ (m k g : Nat) (st : Nat → Int32) (b : Bool), k + m = N1 → g + m ≤ L → st 13 = nI n → st 8 = nI L → st 9 = nI g → (∀ t, 56 ≤ t → st t = z t) → (b && fitI n L w s (f 88) p m k g st) = B0 → Vw X G mX9_fitsBy.2.2.2.1 0 0 Q (NN kn) (shF kn) (va_up f 89 st) 36 [some (.ref (G.1 + 85)), some (.int (nI w)), some (.int (nI p)), some (.int (nI N1)), none, none, some (.int (b1 b)), some (.int (nI k)), none] [] := by
  intro m
  induction m with
  | zero =>
    intro k g st b hm hgm h13 h8 h9 hz hB
    obtain rfl : N1 = k := by omega
    rw [fitI, Bool.and_true] at hB
    subst hB
    refine r_iload (pc := 36) C dX9_fitsBy_36 rfl ?_
    refine r_iload_n (pc := 38) C dX9_fitsBy_38 rfl ?_
    refine q_ge (pc := 39) C N1 N1 102 rfl rfl (by omega) (by omega) dX9_fitsBy_39 (by decide) (fun c39 => ?_) (fun c39 => ?_)
    · exact K st hz
    · exact absurd c39 (by omega)
  | succ m ih =>
    intro k g st b hm hgm h13 h8 h9 hz hB
    refine r_iload (pc := 36) C dX9_fitsBy_36 rfl ?_
    refine r_iload_n (pc := 38) C dX9_fitsBy_38 rfl ?_
    refine q_ge (pc := 39) C k N1 102 rfl rfl (by omega) (by omega) dX9_fitsBy_39 (by decide) (fun c39 => ?_) (fun c39 => ?_)
    · exact absurd c39 (by omega)
    · refine r_aload_n (pc := 42) C dX9_fitsBy_42 rfl ?_
      refine r_getr (pc := 43) C fX9_19 dX9_fitsBy_43 (s_85 _) rfl rfl ?_
      refine r_bipush (pc := 46) C (38) dX9_fitsBy_46 (by decide) ?_
      refine r_iload_n (pc := 48) C dX9_fitsBy_48 rfl ?_
      refine r_iadd (pc := 49) C dX9_fitsBy_49 ?_
      refine q_iald (pc := 50) C (38 + w) dX9_fitsBy_50 (s_89 _) (sn_89 _) (nI_add 38 w) (by omega) (by decide) ?_
      refine q_val (st (38 + w)) (by rw [up_at]) ?_
      refine r_aload_n (pc := 51) C dX9_fitsBy_51 rfl ?_
      refine r_iload_n (pc := 52) C dX9_fitsBy_52 rfl ?_
      refine r_aload_n (pc := 53) C dX9_fitsBy_53 rfl ?_
      refine r_getr (pc := 54) C fX9_19 dX9_fitsBy_54 (s_85 _) rfl rfl ?_
      refine r_bipush (pc := 57) C (9) dX9_fitsBy_57 (by decide) ?_
      refine q_iald (pc := 59) C 9 dX9_fitsBy_59 (s_89 _) (sn_89 _) rfl (by omega) (by decide) ?_
      refine q_is g (by rw [up_at]; exact h9) ?_
      refine q_vIf (pc := 60) C kX9_170 dX9_fitsBy_60 (c_X9_takesFor (w := w) (leg := g) hw (by omega)) (s_85 _) rfl rfl (Nat.le_of_ble_eq_true rfl) (by decide) ⟨by decide, by decide⟩ ?_
      rw [up_at]
      refine r_iadd (pc := 63) C dX9_fitsBy_63 ?_
      refine r_istore (pc := 64) C dX9_fitsBy_64 (by decide) rfl ?_
      refine r_iload (pc := 66) C dX9_fitsBy_66 rfl ?_
      refine r_if_eq (pc := 68) C 89 dX9_fitsBy_68 (by decide) (fun c68 => ?_) (fun c68 => ?_)
      · replace c68 := b1_0 c68
        refine r_iconst (pc := 89) C (0) dX9_fitsBy_89 (by decide) ?_
        refine r_istore (pc := 90) C dX9_fitsBy_90 (by decide) rfl ?_
        refine r_aload_n (pc := 92) C dX9_fitsBy_92 rfl ?_
        refine q_vVf (pc := 93) C kX9_190 dX9_fitsBy_93 (c_X9_goOn (n := n) (L := L) (g := g) hn hL (by omega) (by rw [up_at]; exact h13) (by rw [up_at]; exact h8) (by rw [up_at]; exact h9)) (s_85 _) rfl rfl (Nat.le_of_ble_eq_true rfl) (by decide) ⟨by decide, by decide⟩ ?_
        rw [up_up, up_at, up_ne (by decide), hs]
        refine r_iinc (pc := 96) C (nI (k + 1)) dX9_fitsBy_96 rfl (nI_inc _) (by decide) rfl ?_
        refine r_goto (pc := 99) C 36 dX9_fitsBy_99 (by decide) ?_
        refine v_drop _ (by repeat (first | exact trivial | exact rfl | constructor)) (ih (k + 1) (g + 1) _ false (by omega) (by omega) ((goS_lo (by decide) (by decide)).trans h13) ((goS_lo (by decide) (by decide)).trans h8) goS_9 (fun t ht => (goS_hi (by omega) hn).trans (hz t ht)) ?_)
        rw [← hB, fitI]
        simp [c68]
      · replace c68 := b1_1 c68
        refine r_iload (pc := 71) C dX9_fitsBy_71 rfl ?_
        refine r_aload_n (pc := 73) C dX9_fitsBy_73 rfl ?_
        refine r_getr (pc := 74) C fX9_16 dX9_fitsBy_74 (s_85 _) rfl rfl ?_
        refine r_iload_n (pc := 77) C dX9_fitsBy_77 rfl ?_
        refine r_iload (pc := 78) C dX9_fitsBy_78 rfl ?_
        refine r_iadd (pc := 80) C dX9_fitsBy_80 ?_
        refine q_iald (pc := 81) C (p + k) dX9_fitsBy_81 (s_88 _) (sn_88 _) (nI_add p k) (by omega) (by decide) ?_
        refine q_val (f 88 (p + k)) (by rw [up_ne (by decide)]) ?_
        refine r_icmp_ne (pc := 82) C 89 dX9_fitsBy_82 (by decide) (fun c82 => ?_) (fun c82 => ?_)
        · refine r_iconst (pc := 89) C (0) dX9_fitsBy_89 (by decide) ?_
          refine r_istore (pc := 90) C dX9_fitsBy_90 (by decide) rfl ?_
          refine r_aload_n (pc := 92) C dX9_fitsBy_92 rfl ?_
          refine q_vVf (pc := 93) C kX9_190 dX9_fitsBy_93 (c_X9_goOn (n := n) (L := L) (g := g) hn hL (by omega) (by rw [up_at]; exact h13) (by rw [up_at]; exact h8) (by rw [up_at]; exact h9)) (s_85 _) rfl rfl (Nat.le_of_ble_eq_true rfl) (by decide) ⟨by decide, by decide⟩ ?_
          rw [up_up, up_at, up_ne (by decide), hs]
          refine r_iinc (pc := 96) C (nI (k + 1)) dX9_fitsBy_96 rfl (nI_inc _) (by decide) rfl ?_
          refine r_goto (pc := 99) C 36 dX9_fitsBy_99 (by decide) ?_
          refine v_drop _ (by repeat (first | exact trivial | exact rfl | constructor)) (ih (k + 1) (g + 1) _ false (by omega) (by omega) ((goS_lo (by decide) (by decide)).trans h13) ((goS_lo (by decide) (by decide)).trans h8) goS_9 (fun t ht => (goS_hi (by omega) hn).trans (hz t ht)) ?_)
          rw [← hB, fitI]
          simp [c68, c82]
        · refine r_iconst (pc := 85) C (1) dX9_fitsBy_85 (by decide) ?_
          refine r_goto (pc := 86) C 90 dX9_fitsBy_86 (by decide) ?_
          refine r_istore (pc := 90) C dX9_fitsBy_90 (by decide) rfl ?_
          refine r_aload_n (pc := 92) C dX9_fitsBy_92 rfl ?_
          refine q_vVf (pc := 93) C kX9_190 dX9_fitsBy_93 (c_X9_goOn (n := n) (L := L) (g := g) hn hL (by omega) (by rw [up_at]; exact h13) (by rw [up_at]; exact h8) (by rw [up_at]; exact h9)) (s_85 _) rfl rfl (Nat.le_of_ble_eq_true rfl) (by decide) ⟨by decide, by decide⟩ ?_
          rw [up_up, up_at, up_ne (by decide), hs]
          refine r_iinc (pc := 96) C (nI (k + 1)) dX9_fitsBy_96 rfl (nI_inc _) (by decide) rfl ?_
          refine r_goto (pc := 99) C 36 dX9_fitsBy_99 (by decide) ?_
          refine v_drop _ (by repeat (first | exact trivial | exact rfl | constructor)) (ih (k + 1) (g + 1) _ true (by omega) (by omega) ((goS_lo (by decide) (by decide)).trans h13) ((goS_lo (by decide) (by decide)).trans h8) goS_9 (fun t ht => (goS_hi (by omega) hn).trans (hz t ht)) ?_)
          rw [← hB, fitI]
          simp [c68, c82]
set_option maxRecDepth 100000 in
set_option maxHeartbeats 4000000 in
theorem c_X9_fitsBy {G : GG} {kn : Nat} {f : MM} {n L g : Nat} (hn : n ≤ 6) (hL : L ≤ 8) (hg : g ≤ L) (h13 : f 89 13 = nI n) (h8 : f 89 8 = nI L) (h9 : f 89 9 = nI g) {w p N1 : Nat} (hw : w < 6) (hp : p + N1 ≤ 320) (hN : g + N1 ≤ L) {a b : Int32} : RI G mX9_fitsBy 5 kn [.ref (G.1 + 85), .int (nI w), .int (nI p), .int (nI N1), .int a, .int b] f (fun v g2 => v = b1 (fitI n L w (allI n) (f 88) p N1 0 g (upd (upd (f 89) 10 a) 11 b)) ∧ agF f g2) := by
  refine Ct.of [some (.ref (G.1 + 85)), some (.int (nI w)), some (.int (nI p)), some (.int (nI N1)), some (.int a), some (.int b), none, none, none] rfl (by decide +kernel) rfl (Nat.le_of_ble_eq_true rfl) rfl ?_
  intro X C
  refine r_aload_n (pc := 0) C dX9_fitsBy_0 rfl ?_
  refine q_vVf (pc := 1) C kX9_203 dX9_fitsBy_1 (c_X9_putAside) (s_85 _) rfl rfl (Nat.le_of_ble_eq_true rfl) (by decide) ⟨by decide, by decide⟩ ?_
  refine r_aload_n (pc := 4) C dX9_fitsBy_4 rfl ?_
  refine r_getr (pc := 5) C fX9_19 dX9_fitsBy_5 (s_85 _) rfl rfl ?_
  refine r_bipush (pc := 8) C (10) dX9_fitsBy_8 (by decide) ?_
  refine r_iload (pc := 10) C dX9_fitsBy_10 rfl ?_
  refine q_iast (pc := 12) C 10 dX9_fitsBy_12 (s_89 _) (sn_89 _) rfl (by omega) (by decide) ?_
  refine r_aload_n (pc := 13) C dX9_fitsBy_13 rfl ?_
  refine r_getr (pc := 14) C fX9_19 dX9_fitsBy_14 (s_85 _) rfl rfl ?_
  refine r_bipush (pc := 17) C (11) dX9_fitsBy_17 (by decide) ?_
  refine r_iload (pc := 19) C dX9_fitsBy_19 rfl ?_
  refine q_iast (pc := 21) C 11 dX9_fitsBy_21 (s_89 _) (sn_89 _) rfl (by omega) (by decide) ?_
  refine q_f (f' := tryM f a b) rfl ?_
  refine r_aload_n (pc := 22) C dX9_fitsBy_22 rfl ?_
  refine r_aload_n (pc := 23) C dX9_fitsBy_23 rfl ?_
  refine q_vIf (pc := 24) C kX9_187 dX9_fitsBy_24 (c_X9_all (n := n) (by rw [tryM_89, upd_ne (by decide), upd_ne (by decide)]; exact h13)) (s_85 _) rfl rfl (Nat.le_of_ble_eq_true rfl) (by decide) ⟨by decide, by decide⟩ ?_
  refine r_put (pc := 27) C fX9_161 ftX9_16 dX9_fitsBy_27 (s_85 _) rfl ?_
  refine r_iconst (pc := 30) C (1) dX9_fitsBy_30 (by decide) ?_
  refine r_istore (pc := 31) C dX9_fitsBy_31 (by decide) rfl ?_
  refine r_iconst (pc := 33) C (0) dX9_fitsBy_33 (by decide) ?_
  refine r_istore (pc := 34) C dX9_fitsBy_34 (by decide) rfl ?_
  refine q_f (f' := va_up (u2 (tryM f a b) 85 16 (allI n)) 89 (upd (upd (f 89) 10 a) 11 b)) (by rw [← tryM_89, ← u2_row (g := tryM f a b) (c := 85) (b := 16) (v := allI n) (by decide : 89 ≠ 85), up_id]; rfl) ?_
  refine v_drop _ (by repeat (first | exact trivial | exact rfl | constructor)) (l_fitsBy (s := allI n) (z := f 89) (B0 := (fitI n L w (allI n) (f 88) p N1 0 g (upd (upd (f 89) 10 a) 11 b))) C hn hL hw hp (by omega) (by simp [u2]) (fun st hz => ?_) N1 0 g _ true (by omega) (by omega) (by rw [upd_ne (by decide), upd_ne (by decide)]; exact h13) (by rw [upd_ne (by decide), upd_ne (by decide)]; exact h8) (by rw [upd_ne (by decide), upd_ne (by decide)]; exact h9) (fun t ht => by rw [upd_ne (by omega), upd_ne (by omega)]) (by rw [Bool.true_and, u2_row (by decide)]; rfl))
  refine r_aload_n (pc := 102) C dX9_fitsBy_102 rfl ?_
  refine q_vVf (pc := 103) C kX9_209 dX9_fitsBy_103 (c_X9_takeBack) (s_85 _) rfl rfl (Nat.le_of_ble_eq_true rfl) (by decide) ⟨by decide, by decide⟩ ?_
  refine r_iload (pc := 106) C dX9_fitsBy_106 rfl ?_
  refine q_zret (pc := 108) C dX9_fitsBy_108 rfl (b1_z _) ?_
  refine ⟨rfl, ?_⟩
  refine agF.back (fun t ht => ?_) (fun t ht => ?_) (fun k b2 k1 k2 k3 => ?_)
  · rw [up_ne (by decide), u2_row (by decide), tryM_94 ht]
  · rw [up_at]; exact hz t ht
  · rw [up_ne k1]
    simp only [u2]
    rw [if_neg k2, tryM_ne k1 (by omega)]
def fsI (v : Nat → Bool) : Nat → Nat × Int32
  | 0 => (0, -1000000)
  | k + 1 => if (31 ≤ k ∨ k = 0) ∧ v k = true then ((fsI v k).1 + 1, if (fsI v k).1 = 0 then nI k else (fsI v k).2) else fsI v k
theorem fsI_le {v : Nat → Bool} : ∀ k, (fsI v k).1 ≤ k := by
  intro k
  induction k with
  | zero => exact Nat.le_refl _
  | succ k ih =>
    unfold fsI
    split
    · exact Nat.succ_le_succ ih
    · exact Nat.le_succ_of_le ih
def fiV (n L g w : Nat) (st it : Nat → Int32) (p N1 : Nat) : Nat → Bool := fun k => fitI n L w (allI n) it p N1 0 g (upd (upd st 10 (nI (k / 31))) 11 (nI (k % 31)))
def n94 : Nat := 94
theorem n94_eq : n94 = 94 := rfl
def inR1 (x : Int32) (lo hi : Int) : Bool := decide (lo ≤ x.toInt ∧ x.toInt ≤ hi)
theorem c_in1 {G : GG} {kn : Nat} {f : MM} {x lo hi : Int32} {b c : Int64} (hb : b = lo.toInt64) (hc : c = hi.toInt64) : CI G mX9_in 1 kn [.long x.toInt64, .long b, .long c] f (b1 (inR1 x lo.toInt hi.toInt)) f := by
  have e : inR1 x lo.toInt hi.toInt = decide (lo ≤ x ∧ x ≤ hi) := decide_eq_decide.mpr (by rw [Int32.le_iff_toInt_le, Int32.le_iff_toInt_le])
  rw [e]
  exact c_X9_in hb hc
theorem inR1_of {x : Int32} {hi : Nat} (h : inR1 x 1 hi = true) : ∃ j : Nat, 1 ≤ j ∧ j ≤ hi ∧ x = nI j := by
  have h1 := of_decide_eq_true h
  obtain ⟨j, hj, e⟩ := nI_of (x := x) (by rw [Int32.lt_iff_toInt_lt]; simp; omega)
  subst e
  rw [nI_toInt hj] at h1
  exact ⟨j, by omega, by omega, rfl⟩
def R_fits (f : MM) (n L g : Nat) (w r i N1 q : Int32) : Int32 × Option Int32 :=
  if inR w n = true then if inR r 8 = true then if inR1 N1 1 8 = true then if inR q 2 = true then if N1.toInt ≤ (L : Int) - g then if 0 ≤ f 87 (tn r) then if hold i N1 (tn (f 87 (tn r))) = true then ((fun s => if q = 0 then nI s.1 else s.2) (fsI (fiV n L g (tn w) (f 89) (f 88) (40 * tn r + tn i) (tn N1)) n94), some 0) else (-1000012, some 2) else (-1000011, some 1) else (-1000002, none) else (-1000001, none) else (-1000001, none) else (-1000001, none) else (-1000001, none)
theorem i32_add0 (x : Int32) : x + 0 = x := by rw [Int32.add_zero]
set_option maxRecDepth 100000 in
set_option maxHeartbeats 4000000 in
theorem l_fits {X : XT} {G : GG} {kn : Nat} {Q : State → Prop} {f : MM} {n L g w r i0 N1 : Nat} {q : Int32} (C : Cx X G mX9_fits 6 0 0 (NN kn)) (hn : n ≤ 6) (hL : L ≤ 8) (hg : g ≤ L) (h13 : f 89 13 = nI n) (h8 : f 89 8 = nI L) (h9 : f 89 9 = nI g) (hw : w < n) (hr : r < 8) (hi : i0 + N1 ≤ 40) (hN1 : g + N1 ≤ L) (K : ∀ g2 : MM, (fun _ g2 => agF f g2) n94 g2 → Vw X G mX9_fits.2.2.2.1 0 0 Q (NN kn) (shF kn) g2 199 [some (.ref (G.1 + 85)), some (.int (nI w)), some (.int (nI r)), some (.int (nI i0)), some (.int (nI N1)), some (.int q), some (.int (nI (fsI (fiV n L g w (f 89) (f 88) (40 * r + i0) N1) n94).1)), some (.int (fsI (fiV n L g w (f 89) (f 88) (40 * r + i0) N1) n94).2), some (.int (nI n94)), none] []) : ∀ (m i : Nat) (g2 : MM), i + m = n94 → (fun _ g2 => agF f g2) i g2 → Vw X G mX9_fits.2.2.2.1 0 0 Q (NN kn) (shF kn) g2 115 [some (.ref (G.1 + 85)), some (.int (nI w)), some (.int (nI r)), some (.int (nI i0)), some (.int (nI N1)), some (.int q), some (.int (nI (fsI (fiV n L g w (f 89) (f 88) (40 * r + i0) N1) i).1)), some (.int (fsI (fiV n L g w (f 89) (f 88) (40 * r + i0) N1) i).2), some (.int (nI i)), none] [] := by
  intro m
  induction m with
  | zero =>
    intro i g2 hm hg2
    obtain rfl : n94 = i := by omega
    have hN := n94_eq
    refine r_iload (pc := 115) C dX9_fits_115 rfl ?_
    refine r_bipush (pc := 117) C (93) dX9_fits_117 (by decide) ?_
    refine q_gt (pc := 119) C n94 93 199 rfl rfl (by omega) (by omega) dX9_fits_119 (by decide) (fun c119 => ?_) (fun c119 => ?_)
    · exact K _ hg2
    · exact absurd c119 (by omega)
  | succ m ih =>
    intro i g2 hm hg2
    have hN := n94_eq
    refine r_iload (pc := 115) C dX9_fits_115 rfl ?_
    refine r_bipush (pc := 117) C (93) dX9_fits_117 (by decide) ?_
    refine q_gt (pc := 119) C i 93 199 rfl rfl (by omega) (by omega) dX9_fits_119 (by decide) (fun c119 => ?_) (fun c119 => ?_)
    · exact absurd c119 (by omega)
    · refine r_iload (pc := 122) C dX9_fits_122 rfl ?_
      refine r_bipush (pc := 124) C (31) dX9_fits_124 (by decide) ?_
      refine q_ge (pc := 126) C i 31 134 rfl rfl (by omega) (by omega) dX9_fits_126 (by decide) (fun c126 => ?_) (fun c126 => ?_)
      · refine r_aload_n (pc := 134) C dX9_fits_134 rfl ?_
        refine r_iload_n (pc := 135) C dX9_fits_135 rfl ?_
        refine r_bipush (pc := 136) C (40) dX9_fits_136 (by decide) ?_
        refine r_iload_n (pc := 138) C dX9_fits_138 rfl ?_
        refine r_imul (pc := 139) C dX9_fits_139 ?_
        refine r_iload_n (pc := 140) C dX9_fits_140 rfl ?_
        refine r_iadd (pc := 141) C dX9_fits_141 ?_
        refine q_is (40 * r + i0) (by rw [← nI_add, ← pk_mul]; rfl) ?_
        refine r_iload (pc := 142) C dX9_fits_142 rfl ?_
        refine r_iload (pc := 144) C dX9_fits_144 rfl ?_
        refine r_bipush (pc := 146) C (31) dX9_fits_146 (by decide) ?_
        refine r_idiv (pc := 148) C dX9_fits_148 (by decide) ?_
        refine q_is (i / 31) (div31 (by omega)) ?_
        refine r_iload (pc := 149) C dX9_fits_149 rfl ?_
        refine r_bipush (pc := 151) C (31) dX9_fits_151 (by decide) ?_
        refine r_irem (pc := 153) C dX9_fits_153 (by decide) ?_
        refine q_is (i % 31) (rem31 (by omega)) ?_
        refine q_vI (pc := 154) C kX9_233 dX9_fits_154 (c_X9_fitsBy (n := n) (L := L) (g := g) (w := w) (p := 40 * r + i0) (N1 := N1) hn hL hg (by rw [hg2.st]; exact h13) (by rw [hg2.st]; exact h8) (by rw [hg2.st]; exact h9) (by omega) (by omega) (by omega)) (s_85 _) rfl rfl (Nat.le_of_ble_eq_true rfl) (by decide) ⟨by decide, by decide⟩ ?_
        intro v154 f154 h154
        obtain ⟨rfl, a154⟩ := h154
        refine q_val (b1 ((fiV n L g w (f 89) (f 88) (40 * r + i0) N1) i)) (by rw [hg2.st, hg2.row (by decide) (by decide)]; rfl) ?_
        have hbd := fsI_le (v := (fiV n L g w (f 89) (f 88) (40 * r + i0) N1)) i
        refine r_istore (pc := 157) C dX9_fits_157 (by decide) rfl ?_
        refine r_iload (pc := 159) C dX9_fits_159 rfl ?_
        refine r_if_eq (pc := 161) C 174 dX9_fits_161 (by decide) (fun c161 => ?_) (fun c161 => ?_)
        · replace c161 := b1_0 c161
          refine r_iload (pc := 174) C dX9_fits_174 rfl ?_
          refine r_istore (pc := 176) C dX9_fits_176 (by decide) rfl ?_
          refine r_iload (pc := 178) C dX9_fits_178 rfl ?_
          refine r_iload (pc := 180) C dX9_fits_180 rfl ?_
          refine r_if_eq (pc := 182) C 189 dX9_fits_182 (by decide) (fun c182 => ?_) (fun c182 => ?_)
          · replace c182 := b1_0 c182
            refine r_iconst (pc := 189) C (0) dX9_fits_189 (by decide) ?_
            refine r_iadd (pc := 190) C dX9_fits_190 ?_
            refine q_is (fsI (fiV n L g w (f 89) (f 88) (40 * r + i0) N1) i).1 (i32_add0 _) ?_
            refine r_istore (pc := 191) C dX9_fits_191 (by decide) rfl ?_
            refine r_iinc (pc := 193) C (nI (i + 1)) dX9_fits_193 rfl (nI_inc _) (by decide) rfl ?_
            refine r_goto (pc := 196) C 115 dX9_fits_196 (by decide) ?_
            have e1 : fsI (fiV n L g w (f 89) (f 88) (40 * r + i0) N1) (i + 1) = fsI (fiV n L g w (f 89) (f 88) (40 * r + i0) N1) i := by rw [fsI, if_neg (fun z => by rw [c161] at z; exact absurd z.2 (by decide))]
            have h := ih (i + 1) _ (by omega) (hg2.tr a154)
            rw [e1] at h
            exact v_drop _ (by repeat (first | exact trivial | exact rfl | constructor)) h
          · replace c182 := b1_1 c182
            rw [c161] at c182; exact absurd c182 (by decide)
        · replace c161 := b1_1 c161
          refine r_iload (pc := 164) C dX9_fits_164 rfl ?_
          refine r_if_ne (pc := 166) C 174 dX9_fits_166 (by decide) (fun c166 => ?_) (fun c166 => ?_)
          · have e166 : ¬ (fsI (fiV n L g w (f 89) (f 88) (40 * r + i0) N1) i).1 = 0 := fun z => c166 (by rw [z]; rfl)
            refine r_iload (pc := 174) C dX9_fits_174 rfl ?_
            refine r_istore (pc := 176) C dX9_fits_176 (by decide) rfl ?_
            refine r_iload (pc := 178) C dX9_fits_178 rfl ?_
            refine r_iload (pc := 180) C dX9_fits_180 rfl ?_
            refine r_if_eq (pc := 182) C 189 dX9_fits_182 (by decide) (fun c182 => ?_) (fun c182 => ?_)
            · replace c182 := b1_0 c182
              rw [c161] at c182; exact absurd c182 (by decide)
            · replace c182 := b1_1 c182
              refine r_iconst (pc := 185) C (1) dX9_fits_185 (by decide) ?_
              refine r_goto (pc := 186) C 190 dX9_fits_186 (by decide) ?_
              refine r_iadd (pc := 190) C dX9_fits_190 ?_
              refine q_is ((fsI (fiV n L g w (f 89) (f 88) (40 * r + i0) N1) i).1 + 1) (nI_1 _) ?_
              refine r_istore (pc := 191) C dX9_fits_191 (by decide) rfl ?_
              refine r_iinc (pc := 193) C (nI (i + 1)) dX9_fits_193 rfl (nI_inc _) (by decide) rfl ?_
              refine r_goto (pc := 196) C 115 dX9_fits_196 (by decide) ?_
              have e1 : fsI (fiV n L g w (f 89) (f 88) (40 * r + i0) N1) (i + 1) = ((fsI (fiV n L g w (f 89) (f 88) (40 * r + i0) N1) i).1 + 1, (fsI (fiV n L g w (f 89) (f 88) (40 * r + i0) N1) i).2) := by rw [fsI, if_pos ⟨by omega, c161⟩, if_neg e166]
              have h := ih (i + 1) _ (by omega) (hg2.tr a154)
              rw [e1] at h
              exact v_drop _ (by repeat (first | exact trivial | exact rfl | constructor)) h
          · have e166 : (fsI (fiV n L g w (f 89) (f 88) (40 * r + i0) N1) i).1 = 0 := (nI_eq (by omega) (by decide)).mp c166
            refine r_iload (pc := 169) C dX9_fits_169 rfl ?_
            refine r_goto (pc := 171) C 176 dX9_fits_171 (by decide) ?_
            refine r_istore (pc := 176) C dX9_fits_176 (by decide) rfl ?_
            refine r_iload (pc := 178) C dX9_fits_178 rfl ?_
            refine r_iload (pc := 180) C dX9_fits_180 rfl ?_
            refine r_if_eq (pc := 182) C 189 dX9_fits_182 (by decide) (fun c182 => ?_) (fun c182 => ?_)
            · replace c182 := b1_0 c182
              rw [c161] at c182; exact absurd c182 (by decide)
            · replace c182 := b1_1 c182
              refine r_iconst (pc := 185) C (1) dX9_fits_185 (by decide) ?_
              refine r_goto (pc := 186) C 190 dX9_fits_186 (by decide) ?_
              refine r_iadd (pc := 190) C dX9_fits_190 ?_
              refine q_is ((fsI (fiV n L g w (f 89) (f 88) (40 * r + i0) N1) i).1 + 1) (nI_1 _) ?_
              refine r_istore (pc := 191) C dX9_fits_191 (by decide) rfl ?_
              refine r_iinc (pc := 193) C (nI (i + 1)) dX9_fits_193 rfl (nI_inc _) (by decide) rfl ?_
              refine r_goto (pc := 196) C 115 dX9_fits_196 (by decide) ?_
              have e1 : fsI (fiV n L g w (f 89) (f 88) (40 * r + i0) N1) (i + 1) = ((fsI (fiV n L g w (f 89) (f 88) (40 * r + i0) N1) i).1 + 1, nI i) := by rw [fsI, if_pos ⟨by omega, c161⟩, if_pos e166]
              have h := ih (i + 1) _ (by omega) (hg2.tr a154)
              rw [e1] at h
              exact v_drop _ (by repeat (first | exact trivial | exact rfl | constructor)) h
      · refine r_iload (pc := 129) C dX9_fits_129 rfl ?_
        refine r_if_ne (pc := 131) C 193 dX9_fits_131 (by decide) (fun c131 => ?_) (fun c131 => ?_)
        · have e131 : ¬ i = 0 := fun z => c131 (by rw [z]; rfl)
          refine r_iinc (pc := 193) C (nI (i + 1)) dX9_fits_193 rfl (nI_inc _) (by decide) rfl ?_
          refine r_goto (pc := 196) C 115 dX9_fits_196 (by decide) ?_
          have e1 : fsI (fiV n L g w (f 89) (f 88) (40 * r + i0) N1) (i + 1) = fsI (fiV n L g w (f 89) (f 88) (40 * r + i0) N1) i := by rw [fsI, if_neg (by omega)]
          have h := ih (i + 1) _ (by omega) hg2
          rw [e1] at h
          exact v_drop _ (by repeat (first | exact trivial | exact rfl | constructor)) h
        · have e131 : i = 0 := (nI_eq (by omega) (by decide)).mp c131
          refine r_aload_n (pc := 134) C dX9_fits_134 rfl ?_
          refine r_iload_n (pc := 135) C dX9_fits_135 rfl ?_
          refine r_bipush (pc := 136) C (40) dX9_fits_136 (by decide) ?_
          refine r_iload_n (pc := 138) C dX9_fits_138 rfl ?_
          refine r_imul (pc := 139) C dX9_fits_139 ?_
          refine r_iload_n (pc := 140) C dX9_fits_140 rfl ?_
          refine r_iadd (pc := 141) C dX9_fits_141 ?_
          refine q_is (40 * r + i0) (by rw [← nI_add, ← pk_mul]; rfl) ?_
          refine r_iload (pc := 142) C dX9_fits_142 rfl ?_
          refine r_iload (pc := 144) C dX9_fits_144 rfl ?_
          refine r_bipush (pc := 146) C (31) dX9_fits_146 (by decide) ?_
          refine r_idiv (pc := 148) C dX9_fits_148 (by decide) ?_
          refine q_is (i / 31) (div31 (by omega)) ?_
          refine r_iload (pc := 149) C dX9_fits_149 rfl ?_
          refine r_bipush (pc := 151) C (31) dX9_fits_151 (by decide) ?_
          refine r_irem (pc := 153) C dX9_fits_153 (by decide) ?_
          refine q_is (i % 31) (rem31 (by omega)) ?_
          refine q_vI (pc := 154) C kX9_233 dX9_fits_154 (c_X9_fitsBy (n := n) (L := L) (g := g) (w := w) (p := 40 * r + i0) (N1 := N1) hn hL hg (by rw [hg2.st]; exact h13) (by rw [hg2.st]; exact h8) (by rw [hg2.st]; exact h9) (by omega) (by omega) (by omega)) (s_85 _) rfl rfl (Nat.le_of_ble_eq_true rfl) (by decide) ⟨by decide, by decide⟩ ?_
          intro v154 f154 h154
          obtain ⟨rfl, a154⟩ := h154
          refine q_val (b1 ((fiV n L g w (f 89) (f 88) (40 * r + i0) N1) i)) (by rw [hg2.st, hg2.row (by decide) (by decide)]; rfl) ?_
          have hbd := fsI_le (v := (fiV n L g w (f 89) (f 88) (40 * r + i0) N1)) i
          refine r_istore (pc := 157) C dX9_fits_157 (by decide) rfl ?_
          refine r_iload (pc := 159) C dX9_fits_159 rfl ?_
          refine r_if_eq (pc := 161) C 174 dX9_fits_161 (by decide) (fun c161 => ?_) (fun c161 => ?_)
          · replace c161 := b1_0 c161
            refine r_iload (pc := 174) C dX9_fits_174 rfl ?_
            refine r_istore (pc := 176) C dX9_fits_176 (by decide) rfl ?_
            refine r_iload (pc := 178) C dX9_fits_178 rfl ?_
            refine r_iload (pc := 180) C dX9_fits_180 rfl ?_
            refine r_if_eq (pc := 182) C 189 dX9_fits_182 (by decide) (fun c182 => ?_) (fun c182 => ?_)
            · replace c182 := b1_0 c182
              refine r_iconst (pc := 189) C (0) dX9_fits_189 (by decide) ?_
              refine r_iadd (pc := 190) C dX9_fits_190 ?_
              refine q_is (fsI (fiV n L g w (f 89) (f 88) (40 * r + i0) N1) i).1 (i32_add0 _) ?_
              refine r_istore (pc := 191) C dX9_fits_191 (by decide) rfl ?_
              refine r_iinc (pc := 193) C (nI (i + 1)) dX9_fits_193 rfl (nI_inc _) (by decide) rfl ?_
              refine r_goto (pc := 196) C 115 dX9_fits_196 (by decide) ?_
              have e1 : fsI (fiV n L g w (f 89) (f 88) (40 * r + i0) N1) (i + 1) = fsI (fiV n L g w (f 89) (f 88) (40 * r + i0) N1) i := by rw [fsI, if_neg (fun z => by rw [c161] at z; exact absurd z.2 (by decide))]
              have h := ih (i + 1) _ (by omega) (hg2.tr a154)
              rw [e1] at h
              exact v_drop _ (by repeat (first | exact trivial | exact rfl | constructor)) h
            · replace c182 := b1_1 c182
              rw [c161] at c182; exact absurd c182 (by decide)
          · replace c161 := b1_1 c161
            refine r_iload (pc := 164) C dX9_fits_164 rfl ?_
            refine r_if_ne (pc := 166) C 174 dX9_fits_166 (by decide) (fun c166 => ?_) (fun c166 => ?_)
            · have e166 : ¬ (fsI (fiV n L g w (f 89) (f 88) (40 * r + i0) N1) i).1 = 0 := fun z => c166 (by rw [z]; rfl)
              refine r_iload (pc := 174) C dX9_fits_174 rfl ?_
              refine r_istore (pc := 176) C dX9_fits_176 (by decide) rfl ?_
              refine r_iload (pc := 178) C dX9_fits_178 rfl ?_
              refine r_iload (pc := 180) C dX9_fits_180 rfl ?_
              refine r_if_eq (pc := 182) C 189 dX9_fits_182 (by decide) (fun c182 => ?_) (fun c182 => ?_)
              · replace c182 := b1_0 c182
                rw [c161] at c182; exact absurd c182 (by decide)
              · replace c182 := b1_1 c182
                refine r_iconst (pc := 185) C (1) dX9_fits_185 (by decide) ?_
                refine r_goto (pc := 186) C 190 dX9_fits_186 (by decide) ?_
                refine r_iadd (pc := 190) C dX9_fits_190 ?_
                refine q_is ((fsI (fiV n L g w (f 89) (f 88) (40 * r + i0) N1) i).1 + 1) (nI_1 _) ?_
                refine r_istore (pc := 191) C dX9_fits_191 (by decide) rfl ?_
                refine r_iinc (pc := 193) C (nI (i + 1)) dX9_fits_193 rfl (nI_inc _) (by decide) rfl ?_
                refine r_goto (pc := 196) C 115 dX9_fits_196 (by decide) ?_
                have e1 : fsI (fiV n L g w (f 89) (f 88) (40 * r + i0) N1) (i + 1) = ((fsI (fiV n L g w (f 89) (f 88) (40 * r + i0) N1) i).1 + 1, (fsI (fiV n L g w (f 89) (f 88) (40 * r + i0) N1) i).2) := by rw [fsI, if_pos ⟨by omega, c161⟩, if_neg e166]
                have h := ih (i + 1) _ (by omega) (hg2.tr a154)
                rw [e1] at h
                exact v_drop _ (by repeat (first | exact trivial | exact rfl | constructor)) h
            · have e166 : (fsI (fiV n L g w (f 89) (f 88) (40 * r + i0) N1) i).1 = 0 := (nI_eq (by omega) (by decide)).mp c166
              refine r_iload (pc := 169) C dX9_fits_169 rfl ?_
              refine r_goto (pc := 171) C 176 dX9_fits_171 (by decide) ?_
              refine r_istore (pc := 176) C dX9_fits_176 (by decide) rfl ?_
              refine r_iload (pc := 178) C dX9_fits_178 rfl ?_
              refine r_iload (pc := 180) C dX9_fits_180 rfl ?_
              refine r_if_eq (pc := 182) C 189 dX9_fits_182 (by decide) (fun c182 => ?_) (fun c182 => ?_)
              · replace c182 := b1_0 c182
                rw [c161] at c182; exact absurd c182 (by decide)
              · replace c182 := b1_1 c182
                refine r_iconst (pc := 185) C (1) dX9_fits_185 (by decide) ?_
                refine r_goto (pc := 186) C 190 dX9_fits_186 (by decide) ?_
                refine r_iadd (pc := 190) C dX9_fits_190 ?_
                refine q_is ((fsI (fiV n L g w (f 89) (f 88) (40 * r + i0) N1) i).1 + 1) (nI_1 _) ?_
                refine r_istore (pc := 191) C dX9_fits_191 (by decide) rfl ?_
                refine r_iinc (pc := 193) C (nI (i + 1)) dX9_fits_193 rfl (nI_inc _) (by decide) rfl ?_
                refine r_goto (pc := 196) C 115 dX9_fits_196 (by decide) ?_
                have e1 : fsI (fiV n L g w (f 89) (f 88) (40 * r + i0) N1) (i + 1) = ((fsI (fiV n L g w (f 89) (f 88) (40 * r + i0) N1) i).1 + 1, nI i) := by rw [fsI, if_pos ⟨by omega, c161⟩, if_pos e166]
                have h := ih (i + 1) _ (by omega) (hg2.tr a154)
                rw [e1] at h
                exact v_drop _ (by repeat (first | exact trivial | exact rfl | constructor)) h
theorem c_inF {G : GG} {kn : Nat} {f : MM} {i z : Int32} {N0 : Nat} {b c : Int64} {s : Nat} (hs : s ≤ 1000) (hz : z = nI s) (hN : N0 ≤ 1000) (hb : b = 0 := by rfl) (hc : c = (z - nI N0).toInt64 := by rfl) : CI G mX9_in 1 kn [.long i.toInt64, .long b, .long c] f (b1 (hold i (nI N0) s)) f := by
  subst hb; subst hc; subst hz
  have e1 : (nI s - nI N0).toInt = (s : Int) - N0 := pk_sub_toInt (by omega) (by omega)
  have e2 : (nI N0).toInt = N0 := nI_toInt (by omega)
  have e : hold i (nI N0) s = decide ((0 : Int32) ≤ i ∧ i ≤ nI s - nI N0) := decide_eq_decide.mpr (by
    rw [Int32.le_iff_toInt_le, Int32.le_iff_toInt_le, e1, e2]
    simp; omega)
  rw [e]
  exact c_X9_in (lo := 0) (by decide) rfl
set_option maxRecDepth 100000 in
set_option maxHeartbeats 4000000 in
theorem c_X9_fits {G : GG} {kn : Nat} {f : MM} {n L g : Nat} (hn : n ≤ 6) (hL : L ≤ 8) (hg : g ≤ L) (h13 : f 89 13 = nI n) (h8 : f 89 8 = nI L) (h9 : f 89 9 = nI g) (hsz : szOK f) {a b c n1 q : Int32} : RI G mX9_fits 6 kn [.ref (G.1 + 85), .int a, .int b, .int c, .int n1, .int q] f (fun v g2 => v = (R_fits f n L g a b c n1 q).1 ∧ (match (R_fits f n L g a b c n1 q).2 with | none => g2 = f | some s => agF (u2 f 85 3 s) g2)) := by
  refine Ct.of [some (.ref (G.1 + 85)), some (.int a), some (.int b), some (.int c), some (.int n1), some (.int q), none, none, none, none] rfl (by decide +kernel) rfl (Nat.le_of_ble_eq_true rfl) rfl ?_
  intro X C
  refine r_aload_n (pc := 0) C dX9_fits_0 rfl ?_
  refine r_iload_n (pc := 1) C dX9_fits_1 rfl ?_
  refine q_vIf (pc := 2) C kX9_197 dX9_fits_2 (c_X9_isWalker hn h13) (s_85 _) rfl rfl (Nat.le_of_ble_eq_true rfl) (by decide) ⟨by decide, by decide⟩ ?_
  refine r_if_eq (pc := 5) C 39 dX9_fits_5 (by decide) (fun c5 => ?_) (fun c5 => ?_)
  · replace c5 := b1_0 c5
    refine r_ldc (pc := 39) C (-1000001) kX9_76 dX9_fits_39 ?_
    refine q_iret (pc := 41) C dX9_fits_41 rfl ?_
    simp [R_fits, c5, agF.rf]
  · replace c5 := b1_1 c5
    obtain ⟨w0, hw0, rfl⟩ := inR_of c5
    have tw : tn (nI w0) = w0 := tn_nI (by omega)
    refine r_iload_n (pc := 8) C dX9_fits_8 rfl ?_
    refine q_sIf (pc := 9) C kX9_70 dX9_fits_9 (c_X9_isRow) rfl rfl (Nat.le_of_ble_eq_true rfl) (by decide) ⟨by decide, by decide⟩ ?_
    refine r_if_eq (pc := 12) C 39 dX9_fits_12 (by decide) (fun c12 => ?_) (fun c12 => ?_)
    · replace c12 := b1_0 c12
      refine r_ldc (pc := 39) C (-1000001) kX9_76 dX9_fits_39 ?_
      refine q_iret (pc := 41) C dX9_fits_41 rfl ?_
      simp [R_fits, c5, tw, c12, agF.rf]
    · replace c12 := b1_1 c12
      obtain ⟨r0, hr0, rfl⟩ := inR_of c12
      have tr : tn (nI r0) = r0 := tn_nI (by omega)
      refine r_iload (pc := 15) C dX9_fits_15 rfl ?_
      refine r_i2l (pc := 17) C dX9_fits_17 ?_
      refine r_lconst (pc := 18) C (1) dX9_fits_18 (by decide) ?_
      refine r_ldc2 (pc := 19) C (8) kX9_231 dX9_fits_19 ?_
      refine q_sIf (pc := 22) C kX9_66 dX9_fits_22 (c_in1 (lo := 1) (hi := 8) (by decide) (by decide)) rfl rfl (Nat.le_of_ble_eq_true rfl) (by decide) ⟨by decide, by decide⟩ ?_
      refine r_if_eq (pc := 25) C 39 dX9_fits_25 (by decide) (fun c25 => ?_) (fun c25 => ?_)
      · replace c25 := b1_0 c25
        replace c25 : inR1 n1 1 8 = false := c25
        refine r_ldc (pc := 39) C (-1000001) kX9_76 dX9_fits_39 ?_
        refine q_iret (pc := 41) C dX9_fits_41 rfl ?_
        simp [R_fits, c5, tw, c12, tr, c25, agF.rf]
      · replace c25 := b1_1 c25
        replace c25 : inR1 n1 1 8 = true := c25
        obtain ⟨N0, hN1, hN8, rfl⟩ := inR1_of (hi := 8) c25
        have tN : tn (nI N0) = N0 := tn_nI (by omega)
        have iN : (nI N0).toInt = N0 := nI_toInt (by omega)
        refine r_iload (pc := 28) C dX9_fits_28 rfl ?_
        refine r_i2l (pc := 30) C dX9_fits_30 ?_
        refine r_lconst (pc := 31) C (0) dX9_fits_31 (by decide) ?_
        refine r_lconst (pc := 32) C (1) dX9_fits_32 (by decide) ?_
        refine q_sIf (pc := 33) C kX9_66 dX9_fits_33 (c_in0 (hi := 1) 2 rfl (by decide) (by decide)) rfl rfl (Nat.le_of_ble_eq_true rfl) (by decide) ⟨by decide, by decide⟩ ?_
        refine r_if_ne (pc := 36) C 42 dX9_fits_36 (by decide) (fun c36 => ?_) (fun c36 => ?_)
        · replace c36 := b1_1 c36
          refine r_iload (pc := 42) C dX9_fits_42 rfl ?_
          refine r_aload_n (pc := 44) C dX9_fits_44 rfl ?_
          refine r_getr (pc := 45) C fX9_19 dX9_fits_45 (s_85 _) rfl rfl ?_
          refine r_bipush (pc := 48) C (8) dX9_fits_48 (by decide) ?_
          refine q_iald (pc := 50) C 8 dX9_fits_50 (s_89 _) (sn_89 _) rfl (by omega) (by decide) ?_
          refine r_aload_n (pc := 51) C dX9_fits_51 rfl ?_
          refine r_getr (pc := 52) C fX9_19 dX9_fits_52 (s_85 _) rfl rfl ?_
          refine r_bipush (pc := 55) C (9) dX9_fits_55 (by decide) ?_
          refine q_iald (pc := 57) C 9 dX9_fits_57 (s_89 _) (sn_89 _) rfl (by omega) (by decide) ?_
          refine r_isub (pc := 58) C dX9_fits_58 ?_
          refine q_is (L - g) (by rw [h8, h9]; exact pk_sub hg) ?_
          refine q_le (pc := 59) C N0 (L - g) 65 rfl rfl (by omega) (by omega) dX9_fits_59 (by decide) (fun c59 => ?_) (fun c59 => ?_)
          · have e59 : (nI N0).toInt ≤ (L : Int) - g := by rw [iN]; omega
            refine r_aload_n (pc := 65) C dX9_fits_65 rfl ?_
            refine r_getr (pc := 66) C fX9_13 dX9_fits_66 (s_85 _) rfl rfl ?_
            refine r_iload_n (pc := 69) C dX9_fits_69 rfl ?_
            refine q_iald (pc := 70) C r0 dX9_fits_70 (s_87 _) (sn_87 _) rfl (by omega) (by decide) ?_
            refine r_if_ge (pc := 71) C 80 dX9_fits_71 (by decide) (fun c71 => ?_) (fun c71 => ?_)
            · obtain ⟨sz, hsz1, esz⟩ := hsz.of hr0 c71
              have tsz : tn (f 87 r0) = sz := by rw [esz, tn_nI (by omega)]
              refine r_iload_n (pc := 80) C dX9_fits_80 rfl ?_
              refine r_i2l (pc := 81) C dX9_fits_81 ?_
              refine r_lconst (pc := 82) C (0) dX9_fits_82 (by decide) ?_
              refine r_aload_n (pc := 83) C dX9_fits_83 rfl ?_
              refine r_getr (pc := 84) C fX9_13 dX9_fits_84 (s_85 _) rfl rfl ?_
              refine r_iload_n (pc := 87) C dX9_fits_87 rfl ?_
              refine q_iald (pc := 88) C r0 dX9_fits_88 (s_87 _) (sn_87 _) rfl (by omega) (by decide) ?_
              refine r_iload (pc := 89) C dX9_fits_89 rfl ?_
              refine r_isub (pc := 91) C dX9_fits_91 ?_
              refine r_i2l (pc := 92) C dX9_fits_92 ?_
              refine q_sIf (pc := 93) C kX9_66 dX9_fits_93 (c_inF (s := sz) (N0 := N0) (z := f 87 r0) (by omega) esz (by omega)) rfl rfl (Nat.le_of_ble_eq_true rfl) (by decide) ⟨by decide, by decide⟩ ?_
              refine r_if_ne (pc := 96) C 105 dX9_fits_96 (by decide) (fun c96 => ?_) (fun c96 => ?_)
              · replace c96 := b1_1 c96
                obtain ⟨i1, n1b, hin, rfl, en⟩ := hold_of c96
                have en2 : n1b = N0 := ((nI_eq (by omega) (by omega)).mp en).symm
                subst en2
                have ti : tn (nI i1) = i1 := tn_nI (by omega)
                refine r_iconst (pc := 105) C (0) dX9_fits_105 (by decide) ?_
                refine r_istore (pc := 106) C dX9_fits_106 (by decide) rfl ?_
                refine r_ldc (pc := 108) C (-1000000) kX9_200 dX9_fits_108 ?_
                refine r_istore (pc := 110) C dX9_fits_110 (by decide) rfl ?_
                refine r_iconst (pc := 112) C (0) dX9_fits_112 (by decide) ?_
                refine r_istore (pc := 113) C dX9_fits_113 (by decide) rfl ?_
                refine v_drop _ (by repeat (first | exact trivial | exact rfl | constructor)) (l_fits (w := w0) (r := r0) (i0 := i1) (N1 := n1b) C hn hL hg h13 h8 h9 hw0 hr0 (by omega) (by omega) (fun g2 hg2 => ?_) n94 0 _ (Nat.zero_add _) agF.rf)
                refine r_aload_n (pc := 199) C dX9_fits_199 rfl ?_
                refine r_iload (pc := 200) C dX9_fits_200 rfl ?_
                refine r_if_ne (pc := 202) C 210 dX9_fits_202 (by decide) (fun c202 => ?_) (fun c202 => ?_)
                · refine r_iload (pc := 210) C dX9_fits_210 rfl ?_
                  refine q_vIf (pc := 212) C kX9_81 dX9_fits_212 (c_X9_well) (s_85 _) rfl rfl (Nat.le_of_ble_eq_true rfl) (by decide) ⟨by decide, by decide⟩ ?_
                  refine q_iret (pc := 215) C dX9_fits_215 rfl ?_
                  have e : R_fits f n L g (nI w0) (nI r0) (nI i1) (nI n1b) q = ((fun s => if q = 0 then nI s.1 else s.2) (fsI (fiV n L g w0 (f 89) (f 88) (40 * r0 + i1) n1b) n94), some 0) := by simp only [R_fits, c5, tw, c12, tr, c25, tN, c36, e59, c71, tsz, c96, ti, if_true]
                  rw [e]
                  refine ⟨by simp [c202], fun k b k1 k2 => ?_⟩
                  simp only [u2]
                  by_cases z : k = 85 ∧ b = 3
                  · rw [if_pos z, if_pos z]
                  · rw [if_neg z, if_neg z]; exact hg2 k b k1 k2
                · refine r_iload (pc := 205) C dX9_fits_205 rfl ?_
                  refine r_goto (pc := 207) C 212 dX9_fits_207 (by decide) ?_
                  refine q_vIf (pc := 212) C kX9_81 dX9_fits_212 (c_X9_well) (s_85 _) rfl rfl (Nat.le_of_ble_eq_true rfl) (by decide) ⟨by decide, by decide⟩ ?_
                  refine q_iret (pc := 215) C dX9_fits_215 rfl ?_
                  have e : R_fits f n L g (nI w0) (nI r0) (nI i1) (nI n1b) q = ((fun s => if q = 0 then nI s.1 else s.2) (fsI (fiV n L g w0 (f 89) (f 88) (40 * r0 + i1) n1b) n94), some 0) := by simp only [R_fits, c5, tw, c12, tr, c25, tN, c36, e59, c71, tsz, c96, ti, if_true]
                  rw [e]
                  refine ⟨by simp [c202], fun k b k1 k2 => ?_⟩
                  simp only [u2]
                  by_cases z : k = 85 ∧ b = 3
                  · rw [if_pos z, if_pos z]
                  · rw [if_neg z, if_neg z]; exact hg2 k b k1 k2
              · replace c96 := b1_0 c96
                refine r_aload_n (pc := 99) C dX9_fits_99 rfl ?_
                refine r_iconst (pc := 100) C (2) dX9_fits_100 (by decide) ?_
                refine q_vIf (pc := 101) C kX9_77 dX9_fits_101 (c_X9_find) (s_85 _) rfl rfl (Nat.le_of_ble_eq_true rfl) (by decide) ⟨by decide, by decide⟩ ?_
                refine q_iret (pc := 104) C dX9_fits_104 rfl ?_
                simp [R_fits, c5, tw, c12, tr, c25, tN, c36, e59, c71, tsz, c96, agF.rf]
            · refine r_aload_n (pc := 74) C dX9_fits_74 rfl ?_
              refine r_iconst (pc := 75) C (1) dX9_fits_75 (by decide) ?_
              refine q_vIf (pc := 76) C kX9_77 dX9_fits_76 (c_X9_find) (s_85 _) rfl rfl (Nat.le_of_ble_eq_true rfl) (by decide) ⟨by decide, by decide⟩ ?_
              refine q_iret (pc := 79) C dX9_fits_79 rfl ?_
              simp [R_fits, c5, tw, c12, tr, c25, tN, c36, e59, c71, agF.rf]
          · have e59 : ¬ (nI N0).toInt ≤ (L : Int) - g := by rw [iN]; omega
            refine r_ldc (pc := 62) C (-1000002) kX9_183 dX9_fits_62 ?_
            refine q_iret (pc := 64) C dX9_fits_64 rfl ?_
            simp [R_fits, c5, tw, c12, tr, c25, tN, c36, e59, agF.rf]
        · replace c36 := b1_0 c36
          refine r_ldc (pc := 39) C (-1000001) kX9_76 dX9_fits_39 ?_
          refine q_iret (pc := 41) C dX9_fits_41 rfl ?_
          simp [R_fits, c5, tw, c12, tr, c25, tN, c36, agF.rf]
def R_kind (f : MM) (n : Nat) (w : Int32) : Int32 := if inR w n = true then f 89 (14 + tn w) else -1000001
def isKd (o k : Int32) : Bool := decide (k = 0) || decide (o = k) || (decide (k = 1) && decide (o < 4)) || (decide (k = 4) && decide (o = 5))
def R_as (f : MM) (n : Nat) (w k : Int32) : Int32 × MM := if inR w n = true then if inR k 6 = true then if isKd (f 89 (14 + tn w)) k = true then (w, u2 f 85 3 0) else (-1000013, u2 f 85 3 3) else (-1000001, f) else (-1000001, f)
def R_trace (f : MM) (t : Nat) (i : Int32) : Int32 := if inR i t = true then f 101 (tn i) else -1000000
set_option maxRecDepth 100000 in
set_option maxHeartbeats 4000000 in
theorem c_X9_kind {G : GG} {kn : Nat} {f : MM} {n : Nat} (hn : n ≤ 6) (h13 : f 89 13 = nI n) {a : Int32} : CI G mX9_kind 3 kn [.ref (G.1 + 85), .int a] f (R_kind f n a) f := by
  refine Ct.of [some (.ref (G.1 + 85)), some (.int a)] rfl (by decide +kernel) rfl (Nat.le_of_ble_eq_true rfl) rfl ?_
  intro X C
  refine r_aload_n (pc := 0) C dX9_kind_0 rfl ?_
  refine r_iload_n (pc := 1) C dX9_kind_1 rfl ?_
  refine q_vIf (pc := 2) C kX9_197 dX9_kind_2 (c_X9_isWalker hn h13) (s_85 _) rfl rfl (Nat.le_of_ble_eq_true rfl) (by decide) ⟨by decide, by decide⟩ ?_
  refine r_if_eq (pc := 5) C 20 dX9_kind_5 (by decide) (fun c5 => ?_) (fun c5 => ?_)
  · replace c5 := b1_0 c5
    refine r_ldc (pc := 20) C (-1000001) kX9_76 dX9_kind_20 ?_
    refine q_iret (pc := 22) C dX9_kind_22 rfl ?_
    exact ⟨by simp [R_kind, c5], rfl⟩
  · replace c5 := b1_1 c5
    obtain ⟨i, hi, rfl⟩ := inR_of c5
    have ti : tn (nI i) = i := tn_nI (by omega)
    refine r_aload_n (pc := 8) C dX9_kind_8 rfl ?_
    refine r_getr (pc := 9) C fX9_19 dX9_kind_9 (s_85 _) rfl rfl ?_
    refine r_bipush (pc := 12) C (14) dX9_kind_12 (by decide) ?_
    refine r_iload_n (pc := 14) C dX9_kind_14 rfl ?_
    refine r_iadd (pc := 15) C dX9_kind_15 ?_
    refine q_iald (pc := 16) C (14 + i) dX9_kind_16 (s_89 _) (sn_89 _) (nI_add 14 i) (by omega) (by decide) ?_
    refine r_goto (pc := 17) C 22 dX9_kind_17 (by decide) ?_
    refine q_iret (pc := 22) C dX9_kind_22 rfl ?_
    exact ⟨by simp [R_kind, c5, ti], rfl⟩
set_option maxRecDepth 100000 in
set_option maxHeartbeats 4000000 in
theorem c_X9_isKind {G : GG} {kn : Nat} {f : MM} {a b : Int32} : CI G mX9_isKind 1 kn [.int a, .int b] f (b1 (isKd a b)) f := by
  refine Ct.of [some (.int a), some (.int b)] rfl (by decide +kernel) rfl (Nat.le_of_ble_eq_true rfl) rfl ?_
  intro X C
  refine r_iload_n (pc := 0) C dX9_isKind_0 rfl ?_
  refine r_if_eq (pc := 1) C 29 dX9_isKind_1 (by decide) (fun c1 => ?_) (fun c1 => ?_)
  · refine r_iconst (pc := 29) C (1) dX9_isKind_29 (by decide) ?_
    refine r_goto (pc := 30) C 34 dX9_isKind_30 (by decide) ?_
    refine q_zret (pc := 34) C dX9_isKind_34 rfl (Or.inr rfl) ?_
    refine ⟨?_, rfl⟩
    first | (simp [isKd, b1, c1]; done) | (clear C; simp_all [isKd, b1]; done)
  · refine r_iload_n (pc := 4) C dX9_isKind_4 rfl ?_
    refine r_iload_n (pc := 5) C dX9_isKind_5 rfl ?_
    refine r_icmp_eq (pc := 6) C 29 dX9_isKind_6 (by decide) (fun c6 => ?_) (fun c6 => ?_)
    · refine r_iconst (pc := 29) C (1) dX9_isKind_29 (by decide) ?_
      refine r_goto (pc := 30) C 34 dX9_isKind_30 (by decide) ?_
      refine q_zret (pc := 34) C dX9_isKind_34 rfl (Or.inr rfl) ?_
      refine ⟨?_, rfl⟩
      first | (simp [isKd, b1, c1, c6]; done) | (clear C; simp_all [isKd, b1]; done)
    · refine r_iload_n (pc := 9) C dX9_isKind_9 rfl ?_
      refine r_iconst (pc := 10) C (1) dX9_isKind_10 (by decide) ?_
      refine r_icmp_ne (pc := 11) C 19 dX9_isKind_11 (by decide) (fun c11 => ?_) (fun c11 => ?_)
      · refine r_iload_n (pc := 19) C dX9_isKind_19 rfl ?_
        refine r_iconst (pc := 20) C (4) dX9_isKind_20 (by decide) ?_
        refine r_icmp_ne (pc := 21) C 33 dX9_isKind_21 (by decide) (fun c21 => ?_) (fun c21 => ?_)
        · refine r_iconst (pc := 33) C (0) dX9_isKind_33 (by decide) ?_
          refine q_zret (pc := 34) C dX9_isKind_34 rfl (Or.inl rfl) ?_
          refine ⟨?_, rfl⟩
          first | (simp [isKd, b1, c1, c6, c11, c21]; done) | (clear C; simp_all [isKd, b1]; done)
        · refine r_iload_n (pc := 24) C dX9_isKind_24 rfl ?_
          refine r_iconst (pc := 25) C (5) dX9_isKind_25 (by decide) ?_
          refine r_icmp_ne (pc := 26) C 33 dX9_isKind_26 (by decide) (fun c26 => ?_) (fun c26 => ?_)
          · refine r_iconst (pc := 33) C (0) dX9_isKind_33 (by decide) ?_
            refine q_zret (pc := 34) C dX9_isKind_34 rfl (Or.inl rfl) ?_
            refine ⟨?_, rfl⟩
            first | (simp [isKd, b1, c1, c6, c11, c21, c26]; done) | (clear C; simp_all [isKd, b1]; done)
          · refine r_iconst (pc := 29) C (1) dX9_isKind_29 (by decide) ?_
            refine r_goto (pc := 30) C 34 dX9_isKind_30 (by decide) ?_
            refine q_zret (pc := 34) C dX9_isKind_34 rfl (Or.inr rfl) ?_
            refine ⟨?_, rfl⟩
            first | (simp [isKd, b1, c1, c6, c11, c21, c26]; done) | (clear C; simp_all [isKd, b1]; done)
      · refine r_iload_n (pc := 14) C dX9_isKind_14 rfl ?_
        refine r_iconst (pc := 15) C (4) dX9_isKind_15 (by decide) ?_
        refine r_icmp_lt (pc := 16) C 29 dX9_isKind_16 (by decide) (fun c16 => ?_) (fun c16 => ?_)
        · refine r_iconst (pc := 29) C (1) dX9_isKind_29 (by decide) ?_
          refine r_goto (pc := 30) C 34 dX9_isKind_30 (by decide) ?_
          refine q_zret (pc := 34) C dX9_isKind_34 rfl (Or.inr rfl) ?_
          refine ⟨?_, rfl⟩
          first | (simp [isKd, b1, c1, c6, c11, c16]; done) | (clear C; simp_all [isKd, b1]; done)
        · refine r_iload_n (pc := 19) C dX9_isKind_19 rfl ?_
          refine r_iconst (pc := 20) C (4) dX9_isKind_20 (by decide) ?_
          refine r_icmp_ne (pc := 21) C 33 dX9_isKind_21 (by decide) (fun c21 => ?_) (fun c21 => ?_)
          · refine r_iconst (pc := 33) C (0) dX9_isKind_33 (by decide) ?_
            refine q_zret (pc := 34) C dX9_isKind_34 rfl (Or.inl rfl) ?_
            refine ⟨?_, rfl⟩
            first | (simp [isKd, b1, c1, c6, c11, c16, c21]; done) | (clear C; simp_all [isKd, b1]; done)
          · refine r_iload_n (pc := 24) C dX9_isKind_24 rfl ?_
            refine r_iconst (pc := 25) C (5) dX9_isKind_25 (by decide) ?_
            refine r_icmp_ne (pc := 26) C 33 dX9_isKind_26 (by decide) (fun c26 => ?_) (fun c26 => ?_)
            · refine r_iconst (pc := 33) C (0) dX9_isKind_33 (by decide) ?_
              refine q_zret (pc := 34) C dX9_isKind_34 rfl (Or.inl rfl) ?_
              refine ⟨?_, rfl⟩
              first | (simp [isKd, b1, c1, c6, c11, c16, c21, c26]; done) | (clear C; simp_all [isKd, b1]; done)
            · refine r_iconst (pc := 29) C (1) dX9_isKind_29 (by decide) ?_
              refine r_goto (pc := 30) C 34 dX9_isKind_30 (by decide) ?_
              refine q_zret (pc := 34) C dX9_isKind_34 rfl (Or.inr rfl) ?_
              refine ⟨?_, rfl⟩
              first | (simp [isKd, b1, c1, c6, c11, c16, c21, c26]; done) | (clear C; simp_all [isKd, b1]; done)
set_option maxRecDepth 100000 in
set_option maxHeartbeats 4000000 in
theorem c_X9_as {G : GG} {kn : Nat} {f : MM} {n : Nat} (hn : n ≤ 6) (h13 : f 89 13 = nI n) {a b : Int32} : CI G mX9_as 3 kn [.ref (G.1 + 85), .int a, .int b] f (R_as f n a b).1 (R_as f n a b).2 := by
  refine Ct.of [some (.ref (G.1 + 85)), some (.int a), some (.int b)] rfl (by decide +kernel) rfl (Nat.le_of_ble_eq_true rfl) rfl ?_
  intro X C
  refine r_aload_n (pc := 0) C dX9_as_0 rfl ?_
  refine r_iload_n (pc := 1) C dX9_as_1 rfl ?_
  refine q_vIf (pc := 2) C kX9_197 dX9_as_2 (c_X9_isWalker hn h13) (s_85 _) rfl rfl (Nat.le_of_ble_eq_true rfl) (by decide) ⟨by decide, by decide⟩ ?_
  refine r_if_eq (pc := 5) C 20 dX9_as_5 (by decide) (fun c5 => ?_) (fun c5 => ?_)
  · replace c5 := b1_0 c5
    refine r_ldc (pc := 20) C (-1000001) kX9_76 dX9_as_20 ?_
    refine q_iret (pc := 22) C dX9_as_22 rfl ?_
    exact pr (by simp [R_as, c5])
  · replace c5 := b1_1 c5
    obtain ⟨i, hi, rfl⟩ := inR_of c5
    have ti : tn (nI i) = i := tn_nI (by omega)
    refine r_iload_n (pc := 8) C dX9_as_8 rfl ?_
    refine r_i2l (pc := 9) C dX9_as_9 ?_
    refine r_lconst (pc := 10) C (0) dX9_as_10 (by decide) ?_
    refine r_ldc2 (pc := 11) C (5) kX9_237 dX9_as_11 ?_
    refine q_sIf (pc := 14) C kX9_66 dX9_as_14 (c_in0 (hi := 5) 6 rfl (by decide) (by decide)) rfl rfl (Nat.le_of_ble_eq_true rfl) (by decide) ⟨by decide, by decide⟩ ?_
    refine r_if_ne (pc := 17) C 23 dX9_as_17 (by decide) (fun c17 => ?_) (fun c17 => ?_)
    · replace c17 := b1_1 c17
      refine r_aload_n (pc := 23) C dX9_as_23 rfl ?_
      refine r_getr (pc := 24) C fX9_19 dX9_as_24 (s_85 _) rfl rfl ?_
      refine r_bipush (pc := 27) C (14) dX9_as_27 (by decide) ?_
      refine r_iload_n (pc := 29) C dX9_as_29 rfl ?_
      refine r_iadd (pc := 30) C dX9_as_30 ?_
      refine q_iald (pc := 31) C (14 + i) dX9_as_31 (s_89 _) (sn_89 _) (nI_add 14 i) (by omega) (by decide) ?_
      refine r_iload_n (pc := 32) C dX9_as_32 rfl ?_
      refine q_sIf (pc := 33) C kX9_239 dX9_as_33 (c_X9_isKind) rfl rfl (Nat.le_of_ble_eq_true rfl) (by decide) ⟨by decide, by decide⟩ ?_
      refine r_if_eq (pc := 36) C 47 dX9_as_36 (by decide) (fun c36 => ?_) (fun c36 => ?_)
      · replace c36 := b1_0 c36
        refine r_aload_n (pc := 47) C dX9_as_47 rfl ?_
        refine r_iconst (pc := 48) C (3) dX9_as_48 (by decide) ?_
        refine q_vIf (pc := 49) C kX9_77 dX9_as_49 (c_X9_find) (s_85 _) rfl rfl (Nat.le_of_ble_eq_true rfl) (by decide) ⟨by decide, by decide⟩ ?_
        refine q_iret (pc := 52) C dX9_as_52 rfl ?_
        exact pr (by simp [R_as, c5, ti, c17, c36])
      · replace c36 := b1_1 c36
        refine r_aload_n (pc := 39) C dX9_as_39 rfl ?_
        refine r_iload_n (pc := 40) C dX9_as_40 rfl ?_
        refine q_vIf (pc := 41) C kX9_81 dX9_as_41 (c_X9_well) (s_85 _) rfl rfl (Nat.le_of_ble_eq_true rfl) (by decide) ⟨by decide, by decide⟩ ?_
        refine r_goto (pc := 44) C 52 dX9_as_44 (by decide) ?_
        refine q_iret (pc := 52) C dX9_as_52 rfl ?_
        exact pr (by simp [R_as, c5, ti, c17, c36])
    · replace c17 := b1_0 c17
      refine r_ldc (pc := 20) C (-1000001) kX9_76 dX9_as_20 ?_
      refine q_iret (pc := 22) C dX9_as_22 rfl ?_
      exact pr (by simp [R_as, c5, ti, c17])
set_option maxRecDepth 100000 in
set_option maxHeartbeats 4000000 in
theorem c_X9_trace {G : GG} {kn : Nat} {f : MM} {t : Nat} (ht : t ≤ 16) (h27 : f 85 27 = nI t) {a : Int32} : CI G mX9_trace 2 kn [.ref (G.1 + 85), .int a] f (R_trace f t a) f := by
  refine Ct.of [some (.ref (G.1 + 85)), some (.int a)] rfl (by decide +kernel) rfl (Nat.le_of_ble_eq_true rfl) rfl ?_
  intro X C
  refine r_iload_n (pc := 0) C dX9_trace_0 rfl ?_
  refine r_i2l (pc := 1) C dX9_trace_1 ?_
  refine r_lconst (pc := 2) C (0) dX9_trace_2 (by decide) ?_
  refine r_aload_n (pc := 3) C dX9_trace_3 rfl ?_
  refine r_get (pc := 4) C fX9_242 dX9_trace_4 (s_85 _) rfl ?_
  refine r_iconst (pc := 7) C (1) dX9_trace_7 (by decide) ?_
  refine r_isub (pc := 8) C dX9_trace_8 ?_
  refine r_i2l (pc := 9) C dX9_trace_9 ?_
  refine q_sIf (pc := 10) C kX9_66 dX9_trace_10 (c_in0 (hi := f 85 27 - 1) t rfl rfl (by rw [h27]; exact nI_m1 (by omega))) rfl rfl (Nat.le_of_ble_eq_true rfl) (by decide) ⟨by decide, by decide⟩ ?_
  refine r_if_eq (pc := 13) C 25 dX9_trace_13 (by decide) (fun c13 => ?_) (fun c13 => ?_)
  · replace c13 := b1_0 c13
    refine r_ldc (pc := 25) C (-1000000) kX9_200 dX9_trace_25 ?_
    refine q_iret (pc := 27) C dX9_trace_27 rfl ?_
    exact ⟨by simp [R_trace, c13], rfl⟩
  · replace c13 := b1_1 c13
    obtain ⟨i, hi, rfl⟩ := inR_of c13
    have ti : tn (nI i) = i := tn_nI (by omega)
    refine r_aload_n (pc := 16) C dX9_trace_16 rfl ?_
    refine r_getr (pc := 17) C fX9_56 dX9_trace_17 (s_85 _) rfl rfl ?_
    refine r_iload_n (pc := 20) C dX9_trace_20 rfl ?_
    refine q_iald (pc := 21) C i dX9_trace_21 (s_101 _) (sn_101 _) rfl (by omega) (by decide) ?_
    refine r_goto (pc := 22) C 27 dX9_trace_22 (by decide) ?_
    refine q_iret (pc := 27) C dX9_trace_27 rfl ?_
    exact ⟨by simp [R_trace, c13, ti], rfl⟩
/-- a body leaves its number -/
def trF (f : MM) (t : Nat) (b : Int32) : MM := u2 (u2 f 101 t b) 85 27 (nI (t + 1))
theorem trF_st {f : MM} {t : Nat} {b : Int32} : trF f t b 89 = f 89 := by unfold trF; rw [u2_row (by decide), u2_row (by decide)]
theorem trF_27 {f : MM} {t : Nat} {b : Int32} : trF f t b 85 27 = nI (t + 1) := by simp [trF, u2]
set_option maxRecDepth 100000 in
set_option maxHeartbeats 4000000 in
theorem c_X9_begin {G : GG} {kn : Nat} {f : MM} {t : Nat} (ht : t < 16) (h27 : f 85 27 = nI t) {a : Int32} : CV G mX9_begin 1 kn [.ref (G.1 + 85), .int a] f (trF f t a) := by
  refine Ct.of [some (.ref (G.1 + 85)), some (.int a)] rfl (by decide +kernel) rfl (Nat.le_of_ble_eq_true rfl) rfl ?_
  intro X C
  refine r_aload_n (pc := 0) C dX9_begin_0 rfl ?_
  refine r_get (pc := 1) C fX9_242 dX9_begin_1 (s_85 _) rfl ?_
  refine r_bipush (pc := 4) C (16) dX9_begin_4 (by decide) ?_
  refine q_ge (pc := 6) C t 16 29 h27 rfl (by omega) (by omega) dX9_begin_6 (by decide) (fun c6 => ?_) (fun c6 => ?_)
  · exact absurd c6 (by omega)
  · refine r_aload_n (pc := 9) C dX9_begin_9 rfl ?_
    refine r_getr (pc := 10) C fX9_56 dX9_begin_10 (s_85 _) rfl rfl ?_
    refine r_aload_n (pc := 13) C dX9_begin_13 rfl ?_
    refine r_get (pc := 14) C fX9_242 dX9_begin_14 (s_85 _) rfl ?_
    refine r_iload_n (pc := 17) C dX9_begin_17 rfl ?_
    refine q_iast (pc := 18) C t dX9_begin_18 (s_101 _) (sn_101 _) h27 (by omega) (by decide) ?_
    refine r_aload_n (pc := 19) C dX9_begin_19 rfl ?_
    refine r_dup (pc := 20) C dX9_begin_20 rfl ?_
    refine r_get (pc := 21) C fX9_242 dX9_begin_21 (s_85 _) rfl ?_
    refine q_is t (by simp [u2, h27]) ?_
    refine r_iconst (pc := 24) C (1) dX9_begin_24 (by decide) ?_
    refine r_iadd (pc := 25) C dX9_begin_25 ?_
    refine q_is (t + 1) (nI_1 t) ?_
    refine r_put (pc := 26) C fX9_242 ftX9_27 dX9_begin_26 (s_85 _) rfl ?_
    refine q_vret (pc := 29) C dX9_begin_29 rfl ?_
    rfl
set_option maxRecDepth 100000 in
set_option maxHeartbeats 4000000 in
theorem c_X9_lent {G : GG} {kn : Nat} {f : MM} {t w : Nat} (ht : t < 16) (hw : w < 6) (h27 : f 85 27 = nI t) {b : Int32} : CI G mX9_lent 2 kn [.ref (G.1 + 85), .int (nI w), .int b] f (if b = 10 then f 89 (20 + w) else nI w) (trF f t b) := by
  refine Ct.of [some (.ref (G.1 + 85)), some (.int (nI w)), some (.int b)] rfl (by decide +kernel) rfl (Nat.le_of_ble_eq_true rfl) rfl ?_
  intro X C
  refine r_aload_n (pc := 0) C dX9_lent_0 rfl ?_
  refine r_iload_n (pc := 1) C dX9_lent_1 rfl ?_
  refine q_vVf (pc := 2) C kX9_245 dX9_lent_2 (c_X9_begin ht h27) (s_85 _) rfl rfl (Nat.le_of_ble_eq_true rfl) (by decide) ⟨by decide, by decide⟩ ?_
  refine r_iload_n (pc := 5) C dX9_lent_5 rfl ?_
  refine r_bipush (pc := 6) C (10) dX9_lent_6 (by decide) ?_
  refine r_icmp_ne (pc := 8) C 23 dX9_lent_8 (by decide) (fun c8 => ?_) (fun c8 => ?_)
  · refine r_iload_n (pc := 23) C dX9_lent_23 rfl ?_
    refine q_iret (pc := 24) C dX9_lent_24 rfl ?_
    exact ⟨by simp [c8], rfl⟩
  · refine r_aload_n (pc := 11) C dX9_lent_11 rfl ?_
    refine r_getr (pc := 12) C fX9_19 dX9_lent_12 (s_85 _) rfl rfl ?_
    refine r_bipush (pc := 15) C (20) dX9_lent_15 (by decide) ?_
    refine r_iload_n (pc := 17) C dX9_lent_17 rfl ?_
    refine r_iadd (pc := 18) C dX9_lent_18 ?_
    refine q_iald (pc := 19) C (20 + w) dX9_lent_19 (s_89 _) (sn_89 _) (nI_add 20 w) (by omega) (by decide) ?_
    refine q_val (f 89 (20 + w)) (by rw [trF_st]) ?_
    refine r_goto (pc := 20) C 24 dX9_lent_20 (by decide) ?_
    refine q_iret (pc := 24) C dX9_lent_24 rfl ?_
    exact ⟨by simp [c8], rfl⟩
set_option maxRecDepth 100000 in
set_option maxHeartbeats 4000000 in
theorem c_X9_steadyMark {G : GG} {kn : Nat} {f : MM} {t w : Nat} (ht : t < 15) (hw : w < 6) (h27 : f 85 27 = nI t) : CI G mX9_steadyMark 3 kn [.ref (G.1 + 85), .int (nI w)] f (nI w + f 89 (32 + w)) (trF (trF f t 21) (t + 1) 20) := by
  refine Ct.of [some (.ref (G.1 + 85)), some (.int (nI w))] rfl (by decide +kernel) rfl (Nat.le_of_ble_eq_true rfl) rfl ?_
  intro X C
  refine r_aload_n (pc := 0) C dX9_steadyMark_0 rfl ?_
  refine r_bipush (pc := 1) C (21) dX9_steadyMark_1 (by decide) ?_
  refine q_vVf (pc := 3) C kX9_245 dX9_steadyMark_3 (c_X9_begin (by omega) h27) (s_85 _) rfl rfl (Nat.le_of_ble_eq_true rfl) (by decide) ⟨by decide, by decide⟩ ?_
  refine r_aload_n (pc := 6) C dX9_steadyMark_6 rfl ?_
  refine r_iload_n (pc := 7) C dX9_steadyMark_7 rfl ?_
  refine r_bipush (pc := 8) C (20) dX9_steadyMark_8 (by decide) ?_
  refine q_vIf (pc := 10) C kX9_248 dX9_steadyMark_10 (c_X9_lent (t := t + 1) (w := w) (by omega) hw trF_27) (s_85 _) rfl rfl (Nat.le_of_ble_eq_true rfl) (by decide) ⟨by decide, by decide⟩ ?_
  rw [if_neg (by decide)]
  refine r_aload_n (pc := 13) C dX9_steadyMark_13 rfl ?_
  refine r_getr (pc := 14) C fX9_19 dX9_steadyMark_14 (s_85 _) rfl rfl ?_
  refine r_bipush (pc := 17) C (32) dX9_steadyMark_17 (by decide) ?_
  refine r_iload_n (pc := 19) C dX9_steadyMark_19 rfl ?_
  refine r_iadd (pc := 20) C dX9_steadyMark_20 ?_
  refine q_iald (pc := 21) C (32 + w) dX9_steadyMark_21 (s_89 _) (sn_89 _) (nI_add 32 w) (by omega) (by decide) ?_
  refine q_val (f 89 (32 + w)) (by rw [trF_st, trF_st]) ?_
  refine r_iadd (pc := 22) C dX9_steadyMark_22 ?_
  refine q_iret (pc := 23) C dX9_steadyMark_23 rfl ?_
  exact ⟨rfl, rfl⟩
set_option maxRecDepth 100000 in
set_option maxHeartbeats 4000000 in
theorem c_X9_oldSize {G : GG} {kn : Nat} {f : MM} {t w : Nat} (ht : t < 15) (hw : w < 6) (h27 : f 85 27 = nI t) : CI G mX9_oldSize 3 kn [.ref (G.1 + 85), .int (nI w)] f (f 89 (20 + w) - 100) (trF (trF f t 13) (t + 1) 10) := by
  refine Ct.of [some (.ref (G.1 + 85)), some (.int (nI w))] rfl (by decide +kernel) rfl (Nat.le_of_ble_eq_true rfl) rfl ?_
  intro X C
  refine r_aload_n (pc := 0) C dX9_oldSize_0 rfl ?_
  refine r_bipush (pc := 1) C (13) dX9_oldSize_1 (by decide) ?_
  refine q_vVf (pc := 3) C kX9_245 dX9_oldSize_3 (c_X9_begin (by omega) h27) (s_85 _) rfl rfl (Nat.le_of_ble_eq_true rfl) (by decide) ⟨by decide, by decide⟩ ?_
  refine r_aload_n (pc := 6) C dX9_oldSize_6 rfl ?_
  refine r_iload_n (pc := 7) C dX9_oldSize_7 rfl ?_
  refine r_bipush (pc := 8) C (10) dX9_oldSize_8 (by decide) ?_
  refine q_vIf (pc := 10) C kX9_248 dX9_oldSize_10 (c_X9_lent (t := t + 1) (w := w) (by omega) hw trF_27) (s_85 _) rfl rfl (Nat.le_of_ble_eq_true rfl) (by decide) ⟨by decide, by decide⟩ ?_
  rw [if_pos rfl, trF_st]
  refine r_bipush (pc := 13) C (100) dX9_oldSize_13 (by decide) ?_
  refine r_isub (pc := 15) C dX9_oldSize_15 ?_
  refine q_iret (pc := 16) C dX9_oldSize_16 rfl ?_
  exact ⟨rfl, rfl⟩
def szO (f : MM) (t w : Nat) : Int32 × MM := if f 89 (14 + w) = 5 then (2 * (f 89 (20 + w) - 100), trF (trF (trF f t 14) (t + 1) 13) (t + 1 + 1) 10) else (f 89 (20 + w) - 100, trF (trF f t 13) (t + 1) 10)
theorem szO_st {f : MM} {t w : Nat} : (szO f t w).2 89 = f 89 := by unfold szO; split <;> simp only [trF_st]
set_option maxRecDepth 100000 in
set_option maxHeartbeats 4000000 in
theorem c_X9_sizeOfOld {G : GG} {kn : Nat} {f : MM} {t w : Nat} (ht : t < 14) (hw : w < 6) (h27 : f 85 27 = nI t) : CI G mX9_sizeOfOld 4 kn [.ref (G.1 + 85), .int (nI w)] f (szO f t w).1 (szO f t w).2 := by
  refine Ct.of [some (.ref (G.1 + 85)), some (.int (nI w))] rfl (by decide +kernel) rfl (Nat.le_of_ble_eq_true rfl) rfl ?_
  intro X C
  refine r_aload_n (pc := 0) C dX9_sizeOfOld_0 rfl ?_
  refine r_getr (pc := 1) C fX9_19 dX9_sizeOfOld_1 (s_85 _) rfl rfl ?_
  refine r_bipush (pc := 4) C (14) dX9_sizeOfOld_4 (by decide) ?_
  refine r_iload_n (pc := 6) C dX9_sizeOfOld_6 rfl ?_
  refine r_iadd (pc := 7) C dX9_sizeOfOld_7 ?_
  refine q_iald (pc := 8) C (14 + w) dX9_sizeOfOld_8 (s_89 _) (sn_89 _) (nI_add 14 w) (by omega) (by decide) ?_
  refine r_iconst (pc := 9) C (5) dX9_sizeOfOld_9 (by decide) ?_
  refine r_icmp_ne (pc := 10) C 27 dX9_sizeOfOld_10 (by decide) (fun c10 => ?_) (fun c10 => ?_)
  · refine r_aload_n (pc := 27) C dX9_sizeOfOld_27 rfl ?_
    refine r_iload_n (pc := 28) C dX9_sizeOfOld_28 rfl ?_
    refine q_vIf (pc := 29) C kX9_251 dX9_sizeOfOld_29 (c_X9_oldSize (t := t) (w := w) (by omega) hw h27) (s_85 _) rfl rfl (Nat.le_of_ble_eq_true rfl) (by decide) ⟨by decide, by decide⟩ ?_
    refine q_iret (pc := 32) C dX9_sizeOfOld_32 rfl ?_
    exact pr (by simp [szO, c10])
  · refine r_aload_n (pc := 13) C dX9_sizeOfOld_13 rfl ?_
    refine r_bipush (pc := 14) C (14) dX9_sizeOfOld_14 (by decide) ?_
    refine q_vVf (pc := 16) C kX9_245 dX9_sizeOfOld_16 (c_X9_begin (by omega) h27) (s_85 _) rfl rfl (Nat.le_of_ble_eq_true rfl) (by decide) ⟨by decide, by decide⟩ ?_
    refine r_iconst (pc := 19) C (2) dX9_sizeOfOld_19 (by decide) ?_
    refine r_aload_n (pc := 20) C dX9_sizeOfOld_20 rfl ?_
    refine r_iload_n (pc := 21) C dX9_sizeOfOld_21 rfl ?_
    refine q_vIf (pc := 22) C kX9_251 dX9_sizeOfOld_22 (c_X9_oldSize (t := t + 1) (w := w) (by omega) hw trF_27) (s_85 _) rfl rfl (Nat.le_of_ble_eq_true rfl) (by decide) ⟨by decide, by decide⟩ ?_
    rw [trF_st]
    refine r_imul (pc := 25) C dX9_sizeOfOld_25 ?_
    refine q_iret (pc := 26) C dX9_sizeOfOld_26 rfl ?_
    exact pr (by simp [szO, c10])
def mkO (f : MM) (t w : Nat) : Int32 × MM := if f 89 (14 + w) = 2 then (2 * (nI w + f 89 (32 + w)), trF (trF (trF f t 24) (t + 1) 21) (t + 1 + 1) 20) else if f 89 (14 + w) = 3 then (nI w + f 89 (32 + w) - 1000, trF (trF (trF f t 22) (t + 1) 21) (t + 1 + 1) 20) else if f 89 (14 + w) = 1 then (nI w + f 89 (32 + w), trF (trF f t 21) (t + 1) 20) else (nI w - (szO (trF (trF f t 23) (t + 1) 20) (t + 1 + 1) w).1, (szO (trF (trF f t 23) (t + 1) 20) (t + 1 + 1) w).2)
set_option maxRecDepth 100000 in
set_option maxHeartbeats 4000000 in
theorem c_X9_markOf {G : GG} {kn : Nat} {f : MM} {t w : Nat} (ht : t < 12) (hw : w < 6) (h27 : f 85 27 = nI t) : CI G mX9_markOf 5 kn [.ref (G.1 + 85), .int (nI w)] f (mkO f t w).1 (mkO f t w).2 := by
  refine Ct.of [some (.ref (G.1 + 85)), some (.int (nI w)), none, none] rfl (by decide +kernel) rfl (Nat.le_of_ble_eq_true rfl) rfl ?_
  intro X C
  refine r_aload_n (pc := 0) C dX9_markOf_0 rfl ?_
  refine r_getr (pc := 1) C fX9_19 dX9_markOf_1 (s_85 _) rfl rfl ?_
  refine r_bipush (pc := 4) C (14) dX9_markOf_4 (by decide) ?_
  refine r_iload_n (pc := 6) C dX9_markOf_6 rfl ?_
  refine r_iadd (pc := 7) C dX9_markOf_7 ?_
  refine q_iald (pc := 8) C (14 + w) dX9_markOf_8 (s_89 _) (sn_89 _) (nI_add 14 w) (by omega) (by decide) ?_
  refine r_istore_n (pc := 9) C dX9_markOf_9 (by decide) rfl ?_
  refine r_iload_n (pc := 10) C dX9_markOf_10 rfl ?_
  refine r_iconst (pc := 11) C (2) dX9_markOf_11 (by decide) ?_
  refine r_icmp_ne (pc := 12) C 29 dX9_markOf_12 (by decide) (fun c12 => ?_) (fun c12 => ?_)
  · refine r_iload_n (pc := 29) C dX9_markOf_29 rfl ?_
    refine r_iconst (pc := 30) C (3) dX9_markOf_30 (by decide) ?_
    refine r_icmp_ne (pc := 31) C 50 dX9_markOf_31 (by decide) (fun c31 => ?_) (fun c31 => ?_)
    · refine r_iload_n (pc := 50) C dX9_markOf_50 rfl ?_
      refine r_iconst (pc := 51) C (1) dX9_markOf_51 (by decide) ?_
      refine r_icmp_ne (pc := 52) C 61 dX9_markOf_52 (by decide) (fun c52 => ?_) (fun c52 => ?_)
      · refine r_aload_n (pc := 61) C dX9_markOf_61 rfl ?_
        refine r_bipush (pc := 62) C (23) dX9_markOf_62 (by decide) ?_
        refine q_vVf (pc := 64) C kX9_245 dX9_markOf_64 (c_X9_begin (by omega) h27) (s_85 _) rfl rfl (Nat.le_of_ble_eq_true rfl) (by decide) ⟨by decide, by decide⟩ ?_
        refine r_aload_n (pc := 67) C dX9_markOf_67 rfl ?_
        refine r_iload_n (pc := 68) C dX9_markOf_68 rfl ?_
        refine r_bipush (pc := 69) C (20) dX9_markOf_69 (by decide) ?_
        refine q_vIf (pc := 71) C kX9_248 dX9_markOf_71 (c_X9_lent (t := t + 1) (w := w) (by omega) hw trF_27) (s_85 _) rfl rfl (Nat.le_of_ble_eq_true rfl) (by decide) ⟨by decide, by decide⟩ ?_
        rw [if_neg (by decide)]
        refine r_istore_n (pc := 74) C dX9_markOf_74 (by decide) rfl ?_
        refine r_iload_n (pc := 75) C dX9_markOf_75 rfl ?_
        refine r_aload_n (pc := 76) C dX9_markOf_76 rfl ?_
        refine r_iload_n (pc := 77) C dX9_markOf_77 rfl ?_
        refine q_vIf (pc := 78) C kX9_257 dX9_markOf_78 (c_X9_sizeOfOld (t := t + 1 + 1) (w := w) (by omega) hw trF_27) (s_85 _) rfl rfl (Nat.le_of_ble_eq_true rfl) (by decide) ⟨by decide, by decide⟩ ?_
        refine r_isub (pc := 81) C dX9_markOf_81 ?_
        refine q_iret (pc := 82) C dX9_markOf_82 rfl ?_
        exact pr (by simp [mkO, c12, c31, c52])
      · refine r_aload_n (pc := 55) C dX9_markOf_55 rfl ?_
        refine r_iload_n (pc := 56) C dX9_markOf_56 rfl ?_
        refine q_vIf (pc := 57) C kX9_254 dX9_markOf_57 (c_X9_steadyMark (t := t) (w := w) (by omega) hw h27) (s_85 _) rfl rfl (Nat.le_of_ble_eq_true rfl) (by decide) ⟨by decide, by decide⟩ ?_
        refine q_iret (pc := 60) C dX9_markOf_60 rfl ?_
        exact pr (by simp [mkO, c12, c31, c52])
    · refine r_aload_n (pc := 34) C dX9_markOf_34 rfl ?_
      refine r_bipush (pc := 35) C (22) dX9_markOf_35 (by decide) ?_
      refine q_vVf (pc := 37) C kX9_245 dX9_markOf_37 (c_X9_begin (by omega) h27) (s_85 _) rfl rfl (Nat.le_of_ble_eq_true rfl) (by decide) ⟨by decide, by decide⟩ ?_
      refine r_aload_n (pc := 40) C dX9_markOf_40 rfl ?_
      refine r_iload_n (pc := 41) C dX9_markOf_41 rfl ?_
      refine q_vIf (pc := 42) C kX9_254 dX9_markOf_42 (c_X9_steadyMark (t := t + 1) (w := w) (by omega) hw trF_27) (s_85 _) rfl rfl (Nat.le_of_ble_eq_true rfl) (by decide) ⟨by decide, by decide⟩ ?_
      rw [trF_st]
      refine r_sipush (pc := 45) C (1000) dX9_markOf_45 (by decide) ?_
      refine r_isub (pc := 48) C dX9_markOf_48 ?_
      refine q_iret (pc := 49) C dX9_markOf_49 rfl ?_
      exact pr (by simp [mkO, c12, c31])
  · refine r_aload_n (pc := 15) C dX9_markOf_15 rfl ?_
    refine r_bipush (pc := 16) C (24) dX9_markOf_16 (by decide) ?_
    refine q_vVf (pc := 18) C kX9_245 dX9_markOf_18 (c_X9_begin (by omega) h27) (s_85 _) rfl rfl (Nat.le_of_ble_eq_true rfl) (by decide) ⟨by decide, by decide⟩ ?_
    refine r_iconst (pc := 21) C (2) dX9_markOf_21 (by decide) ?_
    refine r_aload_n (pc := 22) C dX9_markOf_22 rfl ?_
    refine r_iload_n (pc := 23) C dX9_markOf_23 rfl ?_
    refine q_vIf (pc := 24) C kX9_254 dX9_markOf_24 (c_X9_steadyMark (t := t + 1) (w := w) (by omega) hw trF_27) (s_85 _) rfl rfl (Nat.le_of_ble_eq_true rfl) (by decide) ⟨by decide, by decide⟩ ?_
    rw [trF_st]
    refine r_imul (pc := 27) C dX9_markOf_27 ?_
    refine q_iret (pc := 28) C dX9_markOf_28 rfl ?_
    exact pr (by simp [mkO, c12])
def ssO (f : MM) (t w : Nat) : Int32 × MM := (f 89 (20 + w) + (mkO (trF (trF f t 11) (t + 1) 10) (t + 1 + 1) w).1, (mkO (trF (trF f t 11) (t + 1) 10) (t + 1 + 1) w).2)
def szA (f : MM) (t w : Nat) : Int32 × MM := if f 89 (14 + w) = 2 then (-(ssO (trF f t 12) (t + 1) w).1, (ssO (trF f t 12) (t + 1) w).2) else if f 89 (14 + w) < 4 then ssO f t w else szO f t w
def R_ask (f : MM) (n : Nat) (w q : Int32) : Int32 × MM := if inR w n = true then if inR q 2 = true then if q = 0 then szA (u2 f 85 27 0) 0 (tn w) else mkO (u2 f 85 27 0) 0 (tn w) else (-1000001, f) else (-1000001, f)
set_option maxRecDepth 100000 in
set_option maxHeartbeats 4000000 in
theorem c_X9_steadySize {G : GG} {kn : Nat} {f : MM} {t w : Nat} (ht : t < 10) (hw : w < 6) (h27 : f 85 27 = nI t) : CI G mX9_steadySize 6 kn [.ref (G.1 + 85), .int (nI w)] f (ssO f t w).1 (ssO f t w).2 := by
  refine Ct.of [some (.ref (G.1 + 85)), some (.int (nI w)), none] rfl (by decide +kernel) rfl (Nat.le_of_ble_eq_true rfl) rfl ?_
  intro X C
  refine r_aload_n (pc := 0) C dX9_steadySize_0 rfl ?_
  refine r_bipush (pc := 1) C (11) dX9_steadySize_1 (by decide) ?_
  refine q_vVf (pc := 3) C kX9_245 dX9_steadySize_3 (c_X9_begin (by omega) h27) (s_85 _) rfl rfl (Nat.le_of_ble_eq_true rfl) (by decide) ⟨by decide, by decide⟩ ?_
  refine r_aload_n (pc := 6) C dX9_steadySize_6 rfl ?_
  refine r_iload_n (pc := 7) C dX9_steadySize_7 rfl ?_
  refine r_bipush (pc := 8) C (10) dX9_steadySize_8 (by decide) ?_
  refine q_vIf (pc := 10) C kX9_248 dX9_steadySize_10 (c_X9_lent (t := t + 1) (w := w) (by omega) hw trF_27) (s_85 _) rfl rfl (Nat.le_of_ble_eq_true rfl) (by decide) ⟨by decide, by decide⟩ ?_
  rw [if_pos rfl, trF_st]
  refine r_istore_n (pc := 13) C dX9_steadySize_13 (by decide) rfl ?_
  refine r_iload_n (pc := 14) C dX9_steadySize_14 rfl ?_
  refine r_aload_n (pc := 15) C dX9_steadySize_15 rfl ?_
  refine r_iload_n (pc := 16) C dX9_steadySize_16 rfl ?_
  refine q_vIf (pc := 17) C kX9_260 dX9_steadySize_17 (c_X9_markOf (t := t + 1 + 1) (w := w) (by omega) hw trF_27) (s_85 _) rfl rfl (Nat.le_of_ble_eq_true rfl) (by decide) ⟨by decide, by decide⟩ ?_
  refine r_iadd (pc := 20) C dX9_steadySize_20 ?_
  refine q_iret (pc := 21) C dX9_steadySize_21 rfl ?_
  exact ⟨rfl, rfl⟩
set_option maxRecDepth 100000 in
set_option maxHeartbeats 4000000 in
theorem c_X9_sizeOf {G : GG} {kn : Nat} {f : MM} {t w : Nat} (ht : t < 9) (hw : w < 6) (h27 : f 85 27 = nI t) : CI G mX9_sizeOf 7 kn [.ref (G.1 + 85), .int (nI w)] f (szA f t w).1 (szA f t w).2 := by
  refine Ct.of [some (.ref (G.1 + 85)), some (.int (nI w)), none] rfl (by decide +kernel) rfl (Nat.le_of_ble_eq_true rfl) rfl ?_
  intro X C
  refine r_aload_n (pc := 0) C dX9_sizeOf_0 rfl ?_
  refine r_getr (pc := 1) C fX9_19 dX9_sizeOf_1 (s_85 _) rfl rfl ?_
  refine r_bipush (pc := 4) C (14) dX9_sizeOf_4 (by decide) ?_
  refine r_iload_n (pc := 6) C dX9_sizeOf_6 rfl ?_
  refine r_iadd (pc := 7) C dX9_sizeOf_7 ?_
  refine q_iald (pc := 8) C (14 + w) dX9_sizeOf_8 (s_89 _) (sn_89 _) (nI_add 14 w) (by omega) (by decide) ?_
  refine r_istore_n (pc := 9) C dX9_sizeOf_9 (by decide) rfl ?_
  refine r_iload_n (pc := 10) C dX9_sizeOf_10 rfl ?_
  refine r_iconst (pc := 11) C (2) dX9_sizeOf_11 (by decide) ?_
  refine r_icmp_ne (pc := 12) C 28 dX9_sizeOf_12 (by decide) (fun c12 => ?_) (fun c12 => ?_)
  · refine r_iload_n (pc := 28) C dX9_sizeOf_28 rfl ?_
    refine r_iconst (pc := 29) C (4) dX9_sizeOf_29 (by decide) ?_
    refine r_icmp_lt (pc := 30) C 41 dX9_sizeOf_30 (by decide) (fun c30 => ?_) (fun c30 => ?_)
    · refine r_aload_n (pc := 41) C dX9_sizeOf_41 rfl ?_
      refine r_iload_n (pc := 42) C dX9_sizeOf_42 rfl ?_
      refine q_vIf (pc := 43) C kX9_263 dX9_sizeOf_43 (c_X9_steadySize (t := t) (w := w) (by omega) hw h27) (s_85 _) rfl rfl (Nat.le_of_ble_eq_true rfl) (by decide) ⟨by decide, by decide⟩ ?_
      refine q_iret (pc := 46) C dX9_sizeOf_46 rfl ?_
      exact pr (by simp [szA, c12, c30])
    · refine r_aload_n (pc := 33) C dX9_sizeOf_33 rfl ?_
      refine r_iload_n (pc := 34) C dX9_sizeOf_34 rfl ?_
      refine q_vIf (pc := 35) C kX9_257 dX9_sizeOf_35 (c_X9_sizeOfOld (t := t) (w := w) (by omega) hw h27) (s_85 _) rfl rfl (Nat.le_of_ble_eq_true rfl) (by decide) ⟨by decide, by decide⟩ ?_
      refine r_goto (pc := 38) C 46 dX9_sizeOf_38 (by decide) ?_
      refine q_iret (pc := 46) C dX9_sizeOf_46 rfl ?_
      exact pr (by simp [szA, c12, c30])
  · refine r_aload_n (pc := 15) C dX9_sizeOf_15 rfl ?_
    refine r_bipush (pc := 16) C (12) dX9_sizeOf_16 (by decide) ?_
    refine q_vVf (pc := 18) C kX9_245 dX9_sizeOf_18 (c_X9_begin (by omega) h27) (s_85 _) rfl rfl (Nat.le_of_ble_eq_true rfl) (by decide) ⟨by decide, by decide⟩ ?_
    refine r_aload_n (pc := 21) C dX9_sizeOf_21 rfl ?_
    refine r_iload_n (pc := 22) C dX9_sizeOf_22 rfl ?_
    refine q_vIf (pc := 23) C kX9_263 dX9_sizeOf_23 (c_X9_steadySize (t := t + 1) (w := w) (by omega) hw trF_27) (s_85 _) rfl rfl (Nat.le_of_ble_eq_true rfl) (by decide) ⟨by decide, by decide⟩ ?_
    refine r_ineg (pc := 26) C dX9_sizeOf_26 ?_
    refine q_iret (pc := 27) C dX9_sizeOf_27 rfl ?_
    exact pr (by simp [szA, c12])
set_option maxRecDepth 100000 in
set_option maxHeartbeats 4000000 in
theorem c_X9_ask {G : GG} {kn : Nat} {f : MM} {n : Nat} (hn : n ≤ 6) (h13 : f 89 13 = nI n) {a b : Int32} : CI G mX9_ask 8 kn [.ref (G.1 + 85), .int a, .int b] f (R_ask f n a b).1 (R_ask f n a b).2 := by
  refine Ct.of [some (.ref (G.1 + 85)), some (.int a), some (.int b)] rfl (by decide +kernel) rfl (Nat.le_of_ble_eq_true rfl) rfl ?_
  intro X C
  refine r_aload_n (pc := 0) C dX9_ask_0 rfl ?_
  refine r_iload_n (pc := 1) C dX9_ask_1 rfl ?_
  refine q_vIf (pc := 2) C kX9_197 dX9_ask_2 (c_X9_isWalker hn h13) (s_85 _) rfl rfl (Nat.le_of_ble_eq_true rfl) (by decide) ⟨by decide, by decide⟩ ?_
  refine r_if_eq (pc := 5) C 18 dX9_ask_5 (by decide) (fun c5 => ?_) (fun c5 => ?_)
  · replace c5 := b1_0 c5
    refine r_ldc (pc := 18) C (-1000001) kX9_76 dX9_ask_18 ?_
    refine q_iret (pc := 20) C dX9_ask_20 rfl ?_
    exact pr (by simp [R_ask, c5])
  · replace c5 := b1_1 c5
    obtain ⟨i, hi, rfl⟩ := inR_of c5
    have ti : tn (nI i) = i := tn_nI (by omega)
    refine r_iload_n (pc := 8) C dX9_ask_8 rfl ?_
    refine r_i2l (pc := 9) C dX9_ask_9 ?_
    refine r_lconst (pc := 10) C (0) dX9_ask_10 (by decide) ?_
    refine r_lconst (pc := 11) C (1) dX9_ask_11 (by decide) ?_
    refine q_sIf (pc := 12) C kX9_66 dX9_ask_12 (c_in0 (hi := 1) 2 rfl (by decide) (by decide)) rfl rfl (Nat.le_of_ble_eq_true rfl) (by decide) ⟨by decide, by decide⟩ ?_
    refine r_if_ne (pc := 15) C 21 dX9_ask_15 (by decide) (fun c15 => ?_) (fun c15 => ?_)
    · replace c15 := b1_1 c15
      refine r_aload_n (pc := 21) C dX9_ask_21 rfl ?_
      refine r_iconst (pc := 22) C (0) dX9_ask_22 (by decide) ?_
      refine r_put (pc := 23) C fX9_242 ftX9_27 dX9_ask_23 (s_85 _) rfl ?_
      refine r_iload_n (pc := 26) C dX9_ask_26 rfl ?_
      refine r_if_ne (pc := 27) C 38 dX9_ask_27 (by decide) (fun c27 => ?_) (fun c27 => ?_)
      · refine r_aload_n (pc := 38) C dX9_ask_38 rfl ?_
        refine r_iload_n (pc := 39) C dX9_ask_39 rfl ?_
        refine q_vIf (pc := 40) C kX9_260 dX9_ask_40 (c_X9_markOf (t := 0) (w := i) (by omega) (by omega) (by simp [u2]; rfl)) (s_85 _) rfl rfl (Nat.le_of_ble_eq_true rfl) (by decide) ⟨by decide, by decide⟩ ?_
        refine q_iret (pc := 43) C dX9_ask_43 rfl ?_
        rw [R_ask, if_pos c5, if_pos c15, ti]
        simp [c27]
      · refine r_aload_n (pc := 30) C dX9_ask_30 rfl ?_
        refine r_iload_n (pc := 31) C dX9_ask_31 rfl ?_
        refine q_vIf (pc := 32) C kX9_266 dX9_ask_32 (c_X9_sizeOf (t := 0) (w := i) (by omega) (by omega) (by simp [u2]; rfl)) (s_85 _) rfl rfl (Nat.le_of_ble_eq_true rfl) (by decide) ⟨by decide, by decide⟩ ?_
        refine r_goto (pc := 35) C 43 dX9_ask_35 (by decide) ?_
        refine q_iret (pc := 43) C dX9_ask_43 rfl ?_
        rw [R_ask, if_pos c5, if_pos c15, ti]
        simp [c27]
    · replace c15 := b1_0 c15
      refine r_ldc (pc := 18) C (-1000001) kX9_76 dX9_ask_18 ?_
      refine q_iret (pc := 20) C dX9_ask_20 rfl ?_
      exact pr (by simp [R_ask, c5, ti, c15])
