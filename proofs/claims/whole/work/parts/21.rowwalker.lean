/-! THE CLASS: rows, walkers -/
theorem kcX8_96 : Kcopy RX8 96 := ⟨gw_at (i := 437) (by decide +kernel) rfl, gw_at (i := 439) (by decide +kernel) rfl, gw_at (i := 438) (by decide +kernel) rfl, gw_at (i := 107) (by decide +kernel) rfl⟩
theorem kcX7_42 : Kcopy RX7 42 := ⟨gw_at (i := 516) (by decide +kernel) rfl, gw_at (i := 439) (by decide +kernel) rfl, gw_at (i := 438) (by decide +kernel) rfl, gw_at (i := 107) (by decide +kernel) rfl⟩
theorem kmX0_27 : Cond.methodLink RX0 27 yJ9_min_7cf53 ∈ gw := gw_at (i := 544) (by decide +kernel) rfl
theorem kmX6_33 : Cond.methodLink RX6 33 yJ9_max_7cf53 ∈ gw := gw_at (i := 567) (by decide +kernel) rfl
theorem kmX3_68 : Cond.methodLink RX3 68 yJ9_max_7cf53 ∈ gw := gw_at (i := 586) (by decide +kernel) rfl
theorem kmX2_94 : Cond.methodLink RX2 94 yJ9_max_7cf53 ∈ gw := gw_at (i := 696) (by decide +kernel) rfl
theorem kcX2_109 : Kcopy RX2 109 := ⟨gw_at (i := 705) (by decide +kernel) rfl, gw_at (i := 439) (by decide +kernel) rfl, gw_at (i := 438) (by decide +kernel) rfl, gw_at (i := 107) (by decide +kernel) rfl⟩
theorem kgX1_15 : Cond.fieldLink RX1 15 RX1 (vz_tabN 0) "[I" ∈ gw := gw_at (i := 772) (by decide +kernel) rfl
theorem kgX1_29 : Cond.fieldLink RX1 29 RX1 (vz_tabN 1) "[I" ∈ gw := gw_at (i := 786) (by decide +kernel) rfl
theorem kgX1_45 : Cond.fieldLink RX1 45 RX1 (vz_tabN 2) "[I" ∈ gw := gw_at (i := 803) (by decide +kernel) rfl
theorem i8cut (v : Int32) : v.toInt8.toInt32 = v <<< ((24 : Int32) &&& 31) >>> ((24 : Int32) &&& 31) := by
  apply Int32.toBitVec_inj.mp
  rw [Int8.toBitVec_toInt32, Int32.toBitVec_toInt8, Int32.toBitVec_shiftRight, Int32.toBitVec_shiftLeft]
  apply BitVec.eq_of_getLsbD_eq
  intro i hi
  have e : ((24 : Int32) &&& 31).toBitVec.smod 32 = 24#32 := by decide
  have e2 : (BitVec.signExtend 8 v.toBitVec)[7] = v.toBitVec[7] := by
    rw [BitVec.getElem_signExtend, dif_pos (by decide)]
  rw [e]
  simp [BitVec.getLsbD_signExtend, BitVec.getLsbD_sshiftRight, BitVec.msb_eq_getLsbD_last, e2]
  by_cases h : i < 8
  · simp [h, show 24 + i < 32 by omega, show ¬ 32 ≤ i by omega, hi]
  · simp [h, show ¬ 24 + i < 32 by omega, show ¬ 32 ≤ i by omega, hi]
theorem i16cut (v : Int32) : v.toInt16.toInt32 = v <<< ((16 : Int32) &&& 31) >>> ((16 : Int32) &&& 31) := by
  apply Int32.toBitVec_inj.mp
  rw [Int16.toBitVec_toInt32, Int32.toBitVec_toInt16, Int32.toBitVec_shiftRight, Int32.toBitVec_shiftLeft]
  apply BitVec.eq_of_getLsbD_eq
  intro i hi
  have e : ((16 : Int32) &&& 31).toBitVec.smod 32 = 16#32 := by decide
  have e2 : (BitVec.signExtend 16 v.toBitVec)[15] = v.toBitVec[15] := by
    rw [BitVec.getElem_signExtend, dif_pos (by decide)]
  rw [e]
  simp [BitVec.getLsbD_signExtend, BitVec.getLsbD_sshiftRight, BitVec.msb_eq_getLsbD_last, e2]
  by_cases h : i < 16
  · simp [h, show 16 + i < 32 by omega, show ¬ 32 ≤ i by omega, hi]
  · simp [h, show ¬ 16 + i < 32 by omega, show ¬ 32 ≤ i by omega, hi]
def C_make (f : MM) (r : Nat) (l n : Int32) : MM := fun k b => if k = 50 + 2 * r ∧ 0 ≤ b ∧ b < 0 + 40 then 0 else u2 (u2 (u2 f (49 + 2 * r) 1 0) (49 + 2 * r) 2 l) (49 + 2 * r) 3 n k b
set_option maxRecDepth 100000 in
set_option maxHeartbeats 4000000 in
theorem l_X5_make {X : XT} {G : GG} {kn : Nat} {Q : State → Prop} {g0 : MM} {r : Nat} {l n : Int32} (C : Cx X G mX5_make 1 0 0 (NN kn)) (hr : r < 8) (K : ∀ g : MM, (fun i g => g = (fun k b => if k = 50 + 2 * r ∧ 0 ≤ b ∧ b < 0 + i then 0 else g0 k b)) 40 g → Vw X G mX5_make.2.2.2.1 0 0 Q (NN kn) (shF kn) g 39 [some (.ref (G.1 + (49 + 2 * r))), some (.int l), some (.int n), some (.int (nI 40))] []) : ∀ (m i : Nat) (g : MM), i + m = 40 → (fun i g => g = (fun k b => if k = 50 + 2 * r ∧ 0 ≤ b ∧ b < 0 + i then 0 else g0 k b)) i g → Vw X G mX5_make.2.2.2.1 0 0 Q (NN kn) (shF kn) g 17 [some (.ref (G.1 + (49 + 2 * r))), some (.int l), some (.int n), some (.int (nI i))] [] := by
  intro m
  induction m with
  | zero =>
    intro i g hm hg
    obtain rfl : 40 = i := by omega
    refine r_iload_n (pc := 17) C dX5_make_17 rfl ?_
    refine r_aload_n (pc := 18) C dX5_make_18 rfl ?_
    refine r_getr (pc := 19) C fX5_9 dX5_make_19 (x_0 hr) rfl (x_t0 hr) ?_
    refine r_alen (pc := 22) C (40) dX5_make_22 ⟨(x_1 hr).1, by rw [(x_1 hr).2]; decide, by rw [(x_1 hr).2]; decide⟩ (x_1n hr) rfl ?_
    refine q_ge (pc := 23) C 40 40 39 rfl rfl (by omega) (by omega) dX5_make_23 (by decide) (fun c23 => ?_) (fun c23 => ?_)
    · exact K _ hg
    · exact absurd c23 (by omega)
  | succ m ih =>
    intro i g hm hg
    refine r_iload_n (pc := 17) C dX5_make_17 rfl ?_
    refine r_aload_n (pc := 18) C dX5_make_18 rfl ?_
    refine r_getr (pc := 19) C fX5_9 dX5_make_19 (x_0 hr) rfl (x_t0 hr) ?_
    refine r_alen (pc := 22) C (40) dX5_make_22 ⟨(x_1 hr).1, by rw [(x_1 hr).2]; decide, by rw [(x_1 hr).2]; decide⟩ (x_1n hr) rfl ?_
    refine q_ge (pc := 23) C i 40 39 rfl rfl (by omega) (by omega) dX5_make_23 (by decide) (fun c23 => ?_) (fun c23 => ?_)
    · exact absurd c23 (by omega)
    · refine r_aload_n (pc := 26) C dX5_make_26 rfl ?_
      refine r_getr (pc := 27) C fX5_9 dX5_make_27 (x_0 hr) rfl (x_t0 hr) ?_
      refine r_iload_n (pc := 30) C dX5_make_30 rfl ?_
      refine r_iconst (pc := 31) C (0) dX5_make_31 (by decide) ?_
      refine q_iast (pc := 32) C i dX5_make_32 (x_1 hr) (x_1n hr) rfl (by omega) (by decide) ?_
      refine r_iinc (pc := 33) C (nI (i + 1)) dX5_make_33 rfl (nI_inc _) (by decide) rfl ?_
      refine r_goto (pc := 36) C 17 dX5_make_36 (by decide) ?_
      refine ih (i + 1) _ (by omega) ?_
      subst hg
      have fs := fill_step (g0 := g0) (c := 50 + 2 * r) (a := 0) (i := i) (by decide)
      simp only [Nat.zero_add] at fs ⊢
      exact fs
set_option maxRecDepth 100000 in
set_option maxHeartbeats 4000000 in
theorem c_X5_make {G : GG} {kn : Nat} {f : MM} {r : Nat} (hr : r < 8) {l n : Int32} : CV G mX5_make 1 kn [.ref (G.1 + (49 + 2 * r)), .int l, .int n] f (C_make f r l n) := by
  refine Ct.of [some (.ref (G.1 + (49 + 2 * r))), some (.int l), some (.int n), none] rfl (by decide +kernel) rfl (Nat.le_of_ble_eq_true rfl) rfl ?_
  intro X C
  refine r_aload_n (pc := 0) C dX5_make_0 rfl ?_
  refine r_iconst (pc := 1) C (0) dX5_make_1 (by decide) ?_
  refine r_putz (pc := 2) C fX5_15 ftX5_1 dX5_make_2 (x_0 hr) rfl (Or.inl rfl) ?_
  refine r_aload_n (pc := 5) C dX5_make_5 rfl ?_
  refine r_iload_n (pc := 6) C dX5_make_6 rfl ?_
  refine r_put (pc := 7) C fX5_19 ftX5_2 dX5_make_7 (x_0 hr) rfl ?_
  refine r_aload_n (pc := 10) C dX5_make_10 rfl ?_
  refine r_iload_n (pc := 11) C dX5_make_11 rfl ?_
  refine r_put (pc := 12) C fX5_23 ftX5_3 dX5_make_12 (x_0 hr) rfl ?_
  refine r_iconst (pc := 15) C (0) dX5_make_15 (by decide) ?_
  refine r_istore_n (pc := 16) C dX5_make_16 (by decide) rfl ?_
  refine l_X5_make (g0 := u2 (u2 (u2 f (49 + 2 * r) 1 0) (49 + 2 * r) 2 l) (49 + 2 * r) 3 n) C hr ?_ 40 0 _ rfl (by funext k b; rw [if_neg (by omega)])
  intro g hg
  subst hg
  refine q_vret (pc := 39) C dX5_make_39 rfl ?_
  rfl
set_option maxRecDepth 100000 in
set_option maxHeartbeats 4000000 in
theorem c_X5_cut {G : GG} {kn : Nat} {f : MM} {r : Nat} (hr : r < 8) {v : Int32} : CI G mX5_cut 1 kn [.ref (G.1 + (49 + 2 * r)), .int v] f (asL (f (49 + 2 * r) 2) v) f := by
  refine Ct.of [some (.ref (G.1 + (49 + 2 * r))), some (.int v)] rfl (by decide +kernel) rfl (Nat.le_of_ble_eq_true rfl) rfl ?_
  intro X C
  refine r_aload_n (pc := 0) C dX5_cut_0 rfl ?_
  refine r_get (pc := 1) C fX5_19 dX5_cut_1 (x_0 hr) rfl ?_
  refine r_if_ne (pc := 4) C 10 dX5_cut_4 (by decide) (fun c4 => ?_) (fun c4 => ?_)
  · refine r_aload_n (pc := 10) C dX5_cut_10 rfl ?_
    refine r_get (pc := 11) C fX5_19 dX5_cut_11 (x_0 hr) rfl ?_
    refine r_iconst (pc := 14) C (1) dX5_cut_14 (by decide) ?_
    refine r_icmp_ne (pc := 15) C 23 dX5_cut_15 (by decide) (fun c15 => ?_) (fun c15 => ?_)
    · refine r_iload_n (pc := 23) C dX5_cut_23 rfl ?_
      refine q_iret (pc := 24) C dX5_cut_24 rfl ?_
      exact ⟨by simp only [asL]; first | (rw [if_pos c4, ← i8cut]) | (rw [if_neg c4]; first | (rw [if_pos c15, ← i16cut]) | (rw [if_neg c15])), rfl⟩
    · refine r_iload_n (pc := 18) C dX5_cut_18 rfl ?_
      refine r_i2s (pc := 19) C dX5_cut_19 ?_
      refine r_goto (pc := 20) C 24 dX5_cut_20 (by decide) ?_
      refine q_iret (pc := 24) C dX5_cut_24 rfl ?_
      exact ⟨by simp only [asL]; first | (rw [if_pos c4, ← i8cut]) | (rw [if_neg c4]; first | (rw [if_pos c15, ← i16cut]) | (rw [if_neg c15])), rfl⟩
  · refine r_iload_n (pc := 7) C dX5_cut_7 rfl ?_
    refine r_i2b (pc := 8) C dX5_cut_8 ?_
    refine q_iret (pc := 9) C dX5_cut_9 rfl ?_
    exact ⟨by simp only [asL]; first | (rw [if_pos c4, ← i8cut]) | (rw [if_neg c4]; first | (rw [if_pos c15, ← i16cut]) | (rw [if_neg c15])), rfl⟩
set_option maxRecDepth 100000 in
set_option maxHeartbeats 4000000 in
theorem c_X5_put {G : GG} {kn : Nat} {f : MM} {r : Nat} (hr : r < 8) {i : Nat} {x v : Int32} (hi : i < 40) (hx : x = nI i) : CI G mX5_put 2 kn [.ref (G.1 + (49 + 2 * r)), .int x, .int v] f (asL (f (49 + 2 * r) 2) v) (u2 f (50 + 2 * r) i (asL (f (49 + 2 * r) 2) v)) := by
  refine Ct.of [some (.ref (G.1 + (49 + 2 * r))), some (.int x), some (.int v)] rfl (by decide +kernel) rfl (Nat.le_of_ble_eq_true rfl) rfl ?_
  intro X C
  subst hx
  refine r_aload_n (pc := 0) C dX5_put_0 rfl ?_
  refine r_getr (pc := 1) C fX5_9 dX5_put_1 (x_0 hr) rfl (x_t0 hr) ?_
  refine r_iload_n (pc := 4) C dX5_put_4 rfl ?_
  refine r_aload_n (pc := 5) C dX5_put_5 rfl ?_
  refine r_iload_n (pc := 6) C dX5_put_6 rfl ?_
  refine q_vIf (pc := 7) C kX5_26 dX5_put_7 (c_X5_cut hr) (x_0 hr) rfl rfl (Nat.le_of_ble_eq_true rfl) (by decide) ⟨by decide, by decide⟩ ?_
  refine q_iast (pc := 10) C i dX5_put_10 (x_1 hr) (x_1n hr) rfl (by omega) (by decide) ?_
  refine r_aload_n (pc := 11) C dX5_put_11 rfl ?_
  refine r_getr (pc := 12) C fX5_9 dX5_put_12 (x_0 hr) rfl (x_t0 hr) ?_
  refine r_iload_n (pc := 15) C dX5_put_15 rfl ?_
  refine q_iald (pc := 16) C i dX5_put_16 (x_1 hr) (x_1n hr) rfl (by omega) (by decide) ?_
  refine q_iret (pc := 17) C dX5_put_17 rfl ?_
  exact ⟨by simp [u2], rfl⟩
def hldB (s i n : Int32) : Bool := decide (0 ≤ i ∧ 0 ≤ n ∧ i ≤ s ∧ n ≤ s - i)
set_option maxRecDepth 100000 in
set_option maxHeartbeats 4000000 in
theorem c_X5_holds {G : GG} {kn : Nat} {f : MM} {r : Nat} (hr : r < 8) {i n : Int32} : CI G mX5_holds 1 kn [.ref (G.1 + (49 + 2 * r)), .int i, .int n] f (b1 (hldB (f (49 + 2 * r) 3) i n)) f := by
  refine Ct.of [some (.ref (G.1 + (49 + 2 * r))), some (.int i), some (.int n)] rfl (by decide +kernel) rfl (Nat.le_of_ble_eq_true rfl) rfl ?_
  intro X C
  refine r_iload_n (pc := 0) C dX5_holds_0 rfl ?_
  refine r_if_lt (pc := 1) C 30 dX5_holds_1 (by decide) (fun c1 => ?_) (fun c1 => ?_)
  · refine r_iconst (pc := 30) C (0) dX5_holds_30 (by decide) ?_
    refine q_zret (pc := 31) C dX5_holds_31 rfl (Or.inl rfl) ?_
    refine ⟨?_, rfl⟩
    simp only [hldB]
    first | exact b1t ⟨Int32.not_lt.mp c1, Int32.not_lt.mp c5, Int32.not_lt.mp c13, Int32.not_lt.mp c23⟩ | exact b1f (fun h => absurd h.1 (Int32.not_le.mpr c1)) | exact b1f (fun h => absurd h.2.1 (Int32.not_le.mpr c5)) | exact b1f (fun h => absurd h.2.2.1 (Int32.not_le.mpr c13)) | exact b1f (fun h => absurd h.2.2.2 (Int32.not_le.mpr c23))
  · refine r_iload_n (pc := 4) C dX5_holds_4 rfl ?_
    refine r_if_lt (pc := 5) C 30 dX5_holds_5 (by decide) (fun c5 => ?_) (fun c5 => ?_)
    · refine r_iconst (pc := 30) C (0) dX5_holds_30 (by decide) ?_
      refine q_zret (pc := 31) C dX5_holds_31 rfl (Or.inl rfl) ?_
      refine ⟨?_, rfl⟩
      simp only [hldB]
      first | exact b1t ⟨Int32.not_lt.mp c1, Int32.not_lt.mp c5, Int32.not_lt.mp c13, Int32.not_lt.mp c23⟩ | exact b1f (fun h => absurd h.1 (Int32.not_le.mpr c1)) | exact b1f (fun h => absurd h.2.1 (Int32.not_le.mpr c5)) | exact b1f (fun h => absurd h.2.2.1 (Int32.not_le.mpr c13)) | exact b1f (fun h => absurd h.2.2.2 (Int32.not_le.mpr c23))
    · refine r_iload_n (pc := 8) C dX5_holds_8 rfl ?_
      refine r_aload_n (pc := 9) C dX5_holds_9 rfl ?_
      refine r_get (pc := 10) C fX5_23 dX5_holds_10 (x_0 hr) rfl ?_
      refine r_icmp_gt (pc := 13) C 30 dX5_holds_13 (by decide) (fun c13 => ?_) (fun c13 => ?_)
      · refine r_iconst (pc := 30) C (0) dX5_holds_30 (by decide) ?_
        refine q_zret (pc := 31) C dX5_holds_31 rfl (Or.inl rfl) ?_
        refine ⟨?_, rfl⟩
        simp only [hldB]
        first | exact b1t ⟨Int32.not_lt.mp c1, Int32.not_lt.mp c5, Int32.not_lt.mp c13, Int32.not_lt.mp c23⟩ | exact b1f (fun h => absurd h.1 (Int32.not_le.mpr c1)) | exact b1f (fun h => absurd h.2.1 (Int32.not_le.mpr c5)) | exact b1f (fun h => absurd h.2.2.1 (Int32.not_le.mpr c13)) | exact b1f (fun h => absurd h.2.2.2 (Int32.not_le.mpr c23))
      · refine r_iload_n (pc := 16) C dX5_holds_16 rfl ?_
        refine r_aload_n (pc := 17) C dX5_holds_17 rfl ?_
        refine r_get (pc := 18) C fX5_23 dX5_holds_18 (x_0 hr) rfl ?_
        refine r_iload_n (pc := 21) C dX5_holds_21 rfl ?_
        refine r_isub (pc := 22) C dX5_holds_22 ?_
        refine r_icmp_gt (pc := 23) C 30 dX5_holds_23 (by decide) (fun c23 => ?_) (fun c23 => ?_)
        · refine r_iconst (pc := 30) C (0) dX5_holds_30 (by decide) ?_
          refine q_zret (pc := 31) C dX5_holds_31 rfl (Or.inl rfl) ?_
          refine ⟨?_, rfl⟩
          simp only [hldB]
          first | exact b1t ⟨Int32.not_lt.mp c1, Int32.not_lt.mp c5, Int32.not_lt.mp c13, Int32.not_lt.mp c23⟩ | exact b1f (fun h => absurd h.1 (Int32.not_le.mpr c1)) | exact b1f (fun h => absurd h.2.1 (Int32.not_le.mpr c5)) | exact b1f (fun h => absurd h.2.2.1 (Int32.not_le.mpr c13)) | exact b1f (fun h => absurd h.2.2.2 (Int32.not_le.mpr c23))
        · refine r_iconst (pc := 26) C (1) dX5_holds_26 (by decide) ?_
          refine r_goto (pc := 27) C 31 dX5_holds_27 (by decide) ?_
          refine q_zret (pc := 31) C dX5_holds_31 rfl (Or.inr rfl) ?_
          refine ⟨?_, rfl⟩
          simp only [hldB]
          first | exact b1t ⟨Int32.not_lt.mp c1, Int32.not_lt.mp c5, Int32.not_lt.mp c13, Int32.not_lt.mp c23⟩ | exact b1f (fun h => absurd h.1 (Int32.not_le.mpr c1)) | exact b1f (fun h => absurd h.2.1 (Int32.not_le.mpr c5)) | exact b1f (fun h => absurd h.2.2.1 (Int32.not_le.mpr c13)) | exact b1f (fun h => absurd h.2.2.2 (Int32.not_le.mpr c23))
theorem u2_va2 {f : MM} {k j : Nat} {s : Nat → Int32} {v : Int32} : u2 (va_up f k s) k j v = va_up f k (upd s j v) := by
  rw [u2_up, up_up, up_at]
def rowB (t r : Nat → Int32) : Nat → Int32 := upd (upd (upd (upd (upd (upd (upd t 0 (r 0)) 1 (r 1)) 2 (r 2)) 3 (r 3)) 4 (r 4)) 5 (r 5)) 6 (r 6)
theorem rowB_lt {t r : Nat → Int32} {j : Nat} (h : j < 7) : rowB t r j = r j := by
  have : j = 0 ∨ j = 1 ∨ j = 2 ∨ j = 3 ∨ j = 4 ∨ j = 5 ∨ j = 6 := by omega
  rcases this with rfl | rfl | rfl | rfl | rfl | rfl | rfl <;> simp [rowB, upd]
/-- the minutes are told without a turn over -/
def fitW (r : Nat → Int32) : Prop := (r 0 < 4 ∨ r 0 = 4 ∨ r 0 = 5) ∧ -2147483648 < (oneS (r 1) (r 2) (r 3)).toInt
theorem mxW {x : Int32} (h : -2147483648 < x.toInt) : (if (1 : Int32) < x - 1 then x - 1 else 1) = (if x ≤ 2 then 1 else x - 1) := by
  have e : (x - 1).toInt = x.toInt - 1 := by
    rw [Int32.toInt_sub, Int32.toInt_one]
    have := x.toInt_lt
    exact Int.bmod_eq_of_le (by omega) (by omega)
  have a1 : ((1 : Int32) < x - 1) ↔ 2 < x.toInt := by rw [Int32.lt_iff_toInt_lt, e, Int32.toInt_one]; omega
  have a2 : (x ≤ 2) ↔ x.toInt ≤ 2 := by rw [Int32.le_iff_toInt_le]; rfl
  by_cases h2 : x.toInt ≤ 2
  · rw [if_pos (a2.mpr h2), if_neg (fun q => by have := a1.mp q; omega)]
  · rw [if_neg (fun q => h2 (a2.mp q)), if_pos (a1.mpr (by omega))]
set_option maxRecDepth 100000 in
set_option maxHeartbeats 4000000 in
theorem c_X6_mendedBy {G : GG} {kn : Nat} {f : MM} {r : Int32} : CI G mX6_mendedBy 1 kn [.int r] f (mendS r) f := by
  refine Ct.of [some (.int r)] rfl (by decide +kernel) rfl (Nat.le_of_ble_eq_true rfl) rfl ?_
  intro X C
  refine r_iload_n (pc := 0) C dX6_mendedBy_0 rfl ?_
  refine r_iconst (pc := 1) C (2) dX6_mendedBy_1 (by decide) ?_
  refine r_icmp_ge (pc := 2) C 7 dX6_mendedBy_2 (by decide) (fun c2 => ?_) (fun c2 => ?_)
  · refine r_iload_n (pc := 7) C dX6_mendedBy_7 rfl ?_
    refine r_bipush (pc := 8) C (10) dX6_mendedBy_8 (by decide) ?_
    refine r_icmp_ge (pc := 10) C 15 dX6_mendedBy_10 (by decide) (fun c10 => ?_) (fun c10 => ?_)
    · refine r_iload_n (pc := 15) C dX6_mendedBy_15 rfl ?_
      refine r_bipush (pc := 16) C (20) dX6_mendedBy_16 (by decide) ?_
      refine r_icmp_gt (pc := 18) C 26 dX6_mendedBy_18 (by decide) (fun c18 => ?_) (fun c18 => ?_)
      · refine r_iconst (pc := 26) C (4) dX6_mendedBy_26 (by decide) ?_
        refine q_iret (pc := 27) C dX6_mendedBy_27 rfl ?_
        refine ⟨?_, rfl⟩
        simp only [mendS]
        first | rw [if_neg c2] | (rw [if_pos c2]; first | rw [if_neg c10] | (rw [if_pos c10]; first | rw [if_pos c18] | rw [if_neg c18]))
      · refine r_bipush (pc := 21) C (6) dX6_mendedBy_21 (by decide) ?_
        refine r_goto (pc := 23) C 27 dX6_mendedBy_23 (by decide) ?_
        refine q_iret (pc := 27) C dX6_mendedBy_27 rfl ?_
        refine ⟨?_, rfl⟩
        simp only [mendS]
        first | rw [if_neg c2] | (rw [if_pos c2]; first | rw [if_neg c10] | (rw [if_pos c10]; first | rw [if_pos c18] | rw [if_neg c18]))
    · refine r_iconst (pc := 13) C (2) dX6_mendedBy_13 (by decide) ?_
      refine q_iret (pc := 14) C dX6_mendedBy_14 rfl ?_
      refine ⟨?_, rfl⟩
      simp only [mendS]
      first | rw [if_neg c2] | (rw [if_pos c2]; first | rw [if_neg c10] | (rw [if_pos c10]; first | rw [if_pos c18] | rw [if_neg c18]))
  · refine r_iconst (pc := 5) C (0) dX6_mendedBy_5 (by decide) ?_
    refine q_iret (pc := 6) C dX6_mendedBy_6 rfl ?_
    refine ⟨?_, rfl⟩
    simp only [mendS]
    first | rw [if_neg c2] | (rw [if_pos c2]; first | rw [if_neg c10] | (rw [if_pos c10]; first | rw [if_pos c18] | rw [if_neg c18]))
set_option maxRecDepth 100000 in
set_option maxHeartbeats 4000000 in
theorem c_X6_become {G : GG} {kn : Nat} {f : MM} {a : Nat} (ha : isK kn a) {b : Nat} (hb : isK kn b) (ne : b ≠ a) : CV G mX6_become 1 kn [.ref (G.1 + a), .ref (G.1 + b)] f (va_up f a (rowB (f a) (f b))) := by
  refine Ct.of [some (.ref (G.1 + a)), some (.ref (G.1 + b))] rfl (by decide +kernel) rfl (Nat.le_of_ble_eq_true rfl) rfl ?_
  intro X C
  refine r_aload_n (pc := 0) C dX6_become_0 rfl ?_
  refine r_aload_n (pc := 1) C dX6_become_1 rfl ?_
  refine r_get (pc := 2) C fX6_9 dX6_become_2 (k_0 hb) rfl ?_
  refine r_put (pc := 5) C fX6_9 ftX6_0 dX6_become_5 (k_0 ha) rfl ?_
  refine r_aload_n (pc := 8) C dX6_become_8 rfl ?_
  refine r_aload_n (pc := 9) C dX6_become_9 rfl ?_
  refine r_get (pc := 10) C fX6_15 dX6_become_10 (k_0 hb) rfl ?_
  refine r_put (pc := 13) C fX6_15 ftX6_1 dX6_become_13 (k_0 ha) rfl ?_
  refine r_aload_n (pc := 16) C dX6_become_16 rfl ?_
  refine r_aload_n (pc := 17) C dX6_become_17 rfl ?_
  refine r_get (pc := 18) C fX6_18 dX6_become_18 (k_0 hb) rfl ?_
  refine r_put (pc := 21) C fX6_18 ftX6_2 dX6_become_21 (k_0 ha) rfl ?_
  refine r_aload_n (pc := 24) C dX6_become_24 rfl ?_
  refine r_aload_n (pc := 25) C dX6_become_25 rfl ?_
  refine r_get (pc := 26) C fX6_21 dX6_become_26 (k_0 hb) rfl ?_
  refine r_put (pc := 29) C fX6_21 ftX6_3 dX6_become_29 (k_0 ha) rfl ?_
  refine r_aload_n (pc := 32) C dX6_become_32 rfl ?_
  refine r_aload_n (pc := 33) C dX6_become_33 rfl ?_
  refine r_get (pc := 34) C fX6_24 dX6_become_34 (k_0 hb) rfl ?_
  refine r_put (pc := 37) C fX6_24 ftX6_4 dX6_become_37 (k_0 ha) rfl ?_
  refine r_aload_n (pc := 40) C dX6_become_40 rfl ?_
  refine r_aload_n (pc := 41) C dX6_become_41 rfl ?_
  refine r_get (pc := 42) C fX6_27 dX6_become_42 (k_0 hb) rfl ?_
  refine r_put (pc := 45) C fX6_27 ftX6_5 dX6_become_45 (k_0 ha) rfl ?_
  refine r_aload_n (pc := 48) C dX6_become_48 rfl ?_
  refine r_aload_n (pc := 49) C dX6_become_49 rfl ?_
  refine r_get (pc := 50) C fX6_30 dX6_become_50 (k_0 hb) rfl ?_
  refine r_put (pc := 53) C fX6_30 ftX6_6 dX6_become_53 (k_0 ha) rfl ?_
  refine q_vret (pc := 56) C dX6_become_56 rfl ?_
  show _ = _
  simp only [rowB, u2_up, up_up, up_at, up_ne ne]
set_option maxRecDepth 100000 in
set_option maxHeartbeats 4000000 in
theorem c_X6_begin {G : GG} {kn : Nat} {f : MM} {a : Nat} (ha : isK kn a) {k p s : Int32} : CV G mX6_begin 1 kn [.ref (G.1 + a), .int k, .int p, .int s] f (va_up f a (upd (upd (upd (f a) 0 k) 1 p) 2 s)) := by
  refine Ct.of [some (.ref (G.1 + a)), some (.int k), some (.int p), some (.int s)] rfl (by decide +kernel) rfl (Nat.le_of_ble_eq_true rfl) rfl ?_
  intro X C
  refine r_aload_n (pc := 0) C dX6_begin_0 rfl ?_
  refine r_iload_n (pc := 1) C dX6_begin_1 rfl ?_
  refine r_put (pc := 2) C fX6_9 ftX6_0 dX6_begin_2 (k_0 ha) rfl ?_
  refine r_aload_n (pc := 5) C dX6_begin_5 rfl ?_
  refine r_iload_n (pc := 6) C dX6_begin_6 rfl ?_
  refine r_put (pc := 7) C fX6_15 ftX6_1 dX6_begin_7 (k_0 ha) rfl ?_
  refine r_aload_n (pc := 10) C dX6_begin_10 rfl ?_
  refine r_iload_n (pc := 11) C dX6_begin_11 rfl ?_
  refine r_put (pc := 12) C fX6_18 ftX6_2 dX6_begin_12 (k_0 ha) rfl ?_
  refine q_vret (pc := 15) C dX6_begin_15 rfl ?_
  show _ = _
  simp only [u2_up, up_up, up_at]
set_option maxRecDepth 100000 in
set_option maxHeartbeats 4000000 in
theorem c_X6_minutesFor {G : GG} {kn : Nat} {f : MM} {a : Nat} (ha : isK kn a) {m : Int32} (hw : fitW (f a)) : CI G mX6_minutesFor 2 kn [.ref (G.1 + a), .int m] f (tkW (f a 0) (f a 1) (f a 2) (f a 3) m) f := by
  refine Ct.of [some (.ref (G.1 + a)), some (.int m), none] rfl (by decide +kernel) rfl (Nat.le_of_ble_eq_true rfl) rfl ?_
  intro X C
  refine r_aload_n (pc := 0) C dX6_minutesFor_0 rfl ?_
  refine r_get (pc := 1) C fX6_15 dX6_minutesFor_1 (k_0 ha) rfl ?_
  refine r_aload_n (pc := 4) C dX6_minutesFor_4 rfl ?_
  refine r_get (pc := 5) C fX6_21 dX6_minutesFor_5 (k_0 ha) rfl ?_
  refine r_iconst (pc := 8) C (2) dX6_minutesFor_8 (by decide) ?_
  refine r_aload_n (pc := 9) C dX6_minutesFor_9 rfl ?_
  refine r_get (pc := 10) C fX6_18 dX6_minutesFor_10 (k_0 ha) rfl ?_
  refine r_imul (pc := 13) C dX6_minutesFor_13 ?_
  refine r_iadd (pc := 14) C dX6_minutesFor_14 ?_
  refine r_bipush (pc := 15) C (8) dX6_minutesFor_15 (by decide) ?_
  refine r_idiv (pc := 17) C dX6_minutesFor_17 (by decide) ?_
  refine r_iadd (pc := 18) C dX6_minutesFor_18 ?_
  refine r_istore_n (pc := 19) C dX6_minutesFor_19 (by decide) rfl ?_
  refine r_aload_n (pc := 20) C dX6_minutesFor_20 rfl ?_
  refine r_get (pc := 21) C fX6_9 dX6_minutesFor_21 (k_0 ha) rfl ?_
  refine r_iconst (pc := 24) C (2) dX6_minutesFor_24 (by decide) ?_
  refine r_icmp_ne (pc := 25) C 38 dX6_minutesFor_25 (by decide) (fun c25 => ?_) (fun c25 => ?_)
  · refine r_aload_n (pc := 38) C dX6_minutesFor_38 rfl ?_
    refine r_get (pc := 39) C fX6_9 dX6_minutesFor_39 (k_0 ha) rfl ?_
    refine r_iconst (pc := 42) C (4) dX6_minutesFor_42 (by decide) ?_
    refine r_icmp_eq (pc := 43) C 54 dX6_minutesFor_43 (by decide) (fun c43 => ?_) (fun c43 => ?_)
    · refine r_iload_n (pc := 54) C dX6_minutesFor_54 rfl ?_
      refine r_iload_n (pc := 55) C dX6_minutesFor_55 rfl ?_
      refine r_iconst (pc := 56) C (3) dX6_minutesFor_56 (by decide) ?_
      refine r_iadd (pc := 57) C dX6_minutesFor_57 ?_
      refine r_imul (pc := 58) C dX6_minutesFor_58 ?_
      refine q_iret (pc := 59) C dX6_minutesFor_59 rfl ?_
      refine ⟨?_, rfl⟩
      simp only [tkW]
      first | (rw [if_pos c25, ← mxW hw.2]; rfl) | (rw [if_neg c25]; first | (rw [if_neg (by rw [c43]; decide)]; rfl) | (rw [if_neg (by rw [c51]; decide)]; rfl) | (rw [if_pos (by rcases hw.1 with q | q | q; exact q; exact absurd q c43; exact absurd q c51)]; rfl))
    · refine r_aload_n (pc := 46) C dX6_minutesFor_46 rfl ?_
      refine r_get (pc := 47) C fX6_9 dX6_minutesFor_47 (k_0 ha) rfl ?_
      refine r_iconst (pc := 50) C (5) dX6_minutesFor_50 (by decide) ?_
      refine r_icmp_ne (pc := 51) C 60 dX6_minutesFor_51 (by decide) (fun c51 => ?_) (fun c51 => ?_)
      · refine r_iload_n (pc := 60) C dX6_minutesFor_60 rfl ?_
        refine r_iload_n (pc := 61) C dX6_minutesFor_61 rfl ?_
        refine r_imul (pc := 62) C dX6_minutesFor_62 ?_
        refine q_iret (pc := 63) C dX6_minutesFor_63 rfl ?_
        refine ⟨?_, rfl⟩
        simp only [tkW]
        first | (rw [if_pos c25, ← mxW hw.2]; rfl) | (rw [if_neg c25]; first | (rw [if_neg (by rw [c43]; decide)]; rfl) | (rw [if_neg (by rw [c51]; decide)]; rfl) | (rw [if_pos (by rcases hw.1 with q | q | q; exact q; exact absurd q c43; exact absurd q c51)]; rfl))
      · refine r_iload_n (pc := 54) C dX6_minutesFor_54 rfl ?_
        refine r_iload_n (pc := 55) C dX6_minutesFor_55 rfl ?_
        refine r_iconst (pc := 56) C (3) dX6_minutesFor_56 (by decide) ?_
        refine r_iadd (pc := 57) C dX6_minutesFor_57 ?_
        refine r_imul (pc := 58) C dX6_minutesFor_58 ?_
        refine q_iret (pc := 59) C dX6_minutesFor_59 rfl ?_
        refine ⟨?_, rfl⟩
        simp only [tkW]
        first | (rw [if_pos c25, ← mxW hw.2]; rfl) | (rw [if_neg c25]; first | (rw [if_neg (by rw [c43]; decide)]; rfl) | (rw [if_neg (by rw [c51]; decide)]; rfl) | (rw [if_pos (by rcases hw.1 with q | q | q; exact q; exact absurd q c43; exact absurd q c51)]; rfl))
  · refine r_iload_n (pc := 28) C dX6_minutesFor_28 rfl ?_
    refine r_iconst (pc := 29) C (1) dX6_minutesFor_29 (by decide) ?_
    refine r_iload_n (pc := 30) C dX6_minutesFor_30 rfl ?_
    refine r_iconst (pc := 31) C (1) dX6_minutesFor_31 (by decide) ?_
    refine r_isub (pc := 32) C dX6_minutesFor_32 ?_
    refine r_mmax (pc := 33) C kX6_33 dX6_minutesFor_33 (by decide) (Nat.le_of_ble_eq_true rfl) ⟨by decide, by decide⟩ kmX6_33 ?_
    refine r_imul (pc := 36) C dX6_minutesFor_36 ?_
    refine q_iret (pc := 37) C dX6_minutesFor_37 rfl ?_
    refine ⟨?_, rfl⟩
    simp only [tkW]
    first | (rw [if_pos c25, ← mxW hw.2]; rfl) | (rw [if_neg c25]; first | (rw [if_neg (by rw [c43]; decide)]; rfl) | (rw [if_neg (by rw [c51]; decide)]; rfl) | (rw [if_pos (by rcases hw.1 with q | q | q; exact q; exact absurd q c43; exact absurd q c51)]; rfl))
set_option maxRecDepth 100000 in
set_option maxHeartbeats 4000000 in
theorem c_X6_tiresBy {G : GG} {kn : Nat} {f : MM} {a : Nat} (ha : isK kn a) {m : Int32} {b : Bool} : CI G mX6_tiresBy 1 kn [.ref (G.1 + a), .int m, .int (b1 b)] f (moW (f a 0) (f a 2) m b) f := by
  refine Ct.of [some (.ref (G.1 + a)), some (.int m), some (.int (b1 b)), none] rfl (by decide +kernel) rfl (Nat.le_of_ble_eq_true rfl) rfl ?_
  intro X C
  refine r_aload_n (pc := 0) C dX6_tiresBy_0 rfl ?_
  refine r_get (pc := 1) C fX6_9 dX6_tiresBy_1 (k_0 ha) rfl ?_
  refine r_iconst (pc := 4) C (4) dX6_tiresBy_4 (by decide) ?_
  refine r_icmp_eq (pc := 5) C 20 dX6_tiresBy_5 (by decide) (fun c5 => ?_) (fun c5 => ?_)
  · refine r_iconst (pc := 20) C (0) dX6_tiresBy_20 (by decide) ?_
    refine q_iret (pc := 21) C dX6_tiresBy_21 rfl ?_
    refine ⟨?_, rfl⟩
    first | (rw [c13] at c38; exact absurd c38 (by decide)) | simp [moW, c5]
  · refine r_aload_n (pc := 8) C dX6_tiresBy_8 rfl ?_
    refine r_get (pc := 9) C fX6_9 dX6_tiresBy_9 (k_0 ha) rfl ?_
    refine r_iconst (pc := 12) C (3) dX6_tiresBy_12 (by decide) ?_
    refine r_icmp_ne (pc := 13) C 22 dX6_tiresBy_13 (by decide) (fun c13 => ?_) (fun c13 => ?_)
    · refine r_iload_n (pc := 22) C dX6_tiresBy_22 rfl ?_
      refine r_iconst (pc := 23) C (1) dX6_tiresBy_23 (by decide) ?_
      refine r_aload_n (pc := 24) C dX6_tiresBy_24 rfl ?_
      refine r_get (pc := 25) C fX6_18 dX6_tiresBy_25 (k_0 ha) rfl ?_
      refine r_iconst (pc := 28) C (2) dX6_tiresBy_28 (by decide) ?_
      refine r_idiv (pc := 29) C dX6_tiresBy_29 (by decide) ?_
      refine r_iadd (pc := 30) C dX6_tiresBy_30 ?_
      refine r_imul (pc := 31) C dX6_tiresBy_31 ?_
      refine r_istore_n (pc := 32) C dX6_tiresBy_32 (by decide) rfl ?_
      refine r_aload_n (pc := 33) C dX6_tiresBy_33 rfl ?_
      refine r_get (pc := 34) C fX6_9 dX6_tiresBy_34 (k_0 ha) rfl ?_
      refine r_iconst (pc := 37) C (5) dX6_tiresBy_37 (by decide) ?_
      refine r_icmp_ne (pc := 38) C 47 dX6_tiresBy_38 (by decide) (fun c38 => ?_) (fun c38 => ?_)
      · refine r_iload_n (pc := 47) C dX6_tiresBy_47 rfl ?_
        refine q_iret (pc := 48) C dX6_tiresBy_48 rfl ?_
        refine ⟨?_, rfl⟩
        first | (rw [c13] at c38; exact absurd c38 (by decide)) | simp [moW, c5, c13, c38]
      · refine r_iload_n (pc := 41) C dX6_tiresBy_41 rfl ?_
        refine r_iload_n (pc := 42) C dX6_tiresBy_42 rfl ?_
        refine r_iadd (pc := 43) C dX6_tiresBy_43 ?_
        refine r_goto (pc := 44) C 48 dX6_tiresBy_44 (by decide) ?_
        refine q_iret (pc := 48) C dX6_tiresBy_48 rfl ?_
        refine ⟨?_, rfl⟩
        first | (rw [c13] at c38; exact absurd c38 (by decide)) | simp [moW, c5, c13, c38]
    · refine r_iload_n (pc := 16) C dX6_tiresBy_16 rfl ?_
      refine r_if_eq (pc := 17) C 22 dX6_tiresBy_17 (by decide) (fun c17 => ?_) (fun c17 => ?_)
      · replace c17 := b1_0 c17
        refine r_iload_n (pc := 22) C dX6_tiresBy_22 rfl ?_
        refine r_iconst (pc := 23) C (1) dX6_tiresBy_23 (by decide) ?_
        refine r_aload_n (pc := 24) C dX6_tiresBy_24 rfl ?_
        refine r_get (pc := 25) C fX6_18 dX6_tiresBy_25 (k_0 ha) rfl ?_
        refine r_iconst (pc := 28) C (2) dX6_tiresBy_28 (by decide) ?_
        refine r_idiv (pc := 29) C dX6_tiresBy_29 (by decide) ?_
        refine r_iadd (pc := 30) C dX6_tiresBy_30 ?_
        refine r_imul (pc := 31) C dX6_tiresBy_31 ?_
        refine r_istore_n (pc := 32) C dX6_tiresBy_32 (by decide) rfl ?_
        refine r_aload_n (pc := 33) C dX6_tiresBy_33 rfl ?_
        refine r_get (pc := 34) C fX6_9 dX6_tiresBy_34 (k_0 ha) rfl ?_
        refine r_iconst (pc := 37) C (5) dX6_tiresBy_37 (by decide) ?_
        refine r_icmp_ne (pc := 38) C 47 dX6_tiresBy_38 (by decide) (fun c38 => ?_) (fun c38 => ?_)
        · refine r_iload_n (pc := 47) C dX6_tiresBy_47 rfl ?_
          refine q_iret (pc := 48) C dX6_tiresBy_48 rfl ?_
          refine ⟨?_, rfl⟩
          first | (rw [c13] at c38; exact absurd c38 (by decide)) | simp [moW, c5, c13, c17, c38]
        · refine r_iload_n (pc := 41) C dX6_tiresBy_41 rfl ?_
          refine r_iload_n (pc := 42) C dX6_tiresBy_42 rfl ?_
          refine r_iadd (pc := 43) C dX6_tiresBy_43 ?_
          refine r_goto (pc := 44) C 48 dX6_tiresBy_44 (by decide) ?_
          refine q_iret (pc := 48) C dX6_tiresBy_48 rfl ?_
          refine ⟨?_, rfl⟩
          first | (rw [c13] at c38; exact absurd c38 (by decide)) | simp [moW, c5, c13, c17, c38]
      · replace c17 := b1_1 c17
        refine r_iconst (pc := 20) C (0) dX6_tiresBy_20 (by decide) ?_
        refine q_iret (pc := 21) C dX6_tiresBy_21 rfl ?_
        refine ⟨?_, rfl⟩
        first | (rw [c13] at c38; exact absurd c38 (by decide)) | simp [moW, c5, c13, c17]
def leaveR (r : Nat → Int32) (L : Int32) : Nat → Int32 := upd (upd (upd r 5 (r 5 + (L - r 6))) 3 (meW (r 3) (L - r 6))) 4 L
theorem mxm {t r : Int32} : (if 0 < t - mendS r then t - mendS r else 0) = meW t r := by
  unfold meW
  by_cases h : 0 < t - mendS r
  · rw [if_pos h, if_pos (Int32.le_of_lt h)]
  · rw [if_neg h]
    by_cases h2 : 0 ≤ t - mendS r
    · rw [if_pos h2]
      exact (Int32.le_antisymm (Int32.not_lt.mp h) h2).symm
    · rw [if_neg h2]
set_option maxRecDepth 100000 in
set_option maxHeartbeats 4000000 in
theorem c_X6_leaveAt {G : GG} {kn : Nat} {f : MM} {a : Nat} (ha : isK kn a) {L : Int32} : CV G mX6_leaveAt 2 kn [.ref (G.1 + a), .int L] f (va_up f a (leaveR (f a) L)) := by
  refine Ct.of [some (.ref (G.1 + a)), some (.int L), none] rfl (by decide +kernel) rfl (Nat.le_of_ble_eq_true rfl) rfl ?_
  intro X C
  refine r_iload_n (pc := 0) C dX6_leaveAt_0 rfl ?_
  refine r_aload_n (pc := 1) C dX6_leaveAt_1 rfl ?_
  refine r_get (pc := 2) C fX6_30 dX6_leaveAt_2 (k_0 ha) rfl ?_
  refine r_isub (pc := 5) C dX6_leaveAt_5 ?_
  refine r_istore_n (pc := 6) C dX6_leaveAt_6 (by decide) rfl ?_
  refine r_aload_n (pc := 7) C dX6_leaveAt_7 rfl ?_
  refine r_dup (pc := 8) C dX6_leaveAt_8 rfl ?_
  refine r_get (pc := 9) C fX6_27 dX6_leaveAt_9 (k_0 ha) rfl ?_
  refine r_iload_n (pc := 12) C dX6_leaveAt_12 rfl ?_
  refine r_iadd (pc := 13) C dX6_leaveAt_13 ?_
  refine r_put (pc := 14) C fX6_27 ftX6_5 dX6_leaveAt_14 (k_0 ha) rfl ?_
  refine r_aload_n (pc := 17) C dX6_leaveAt_17 rfl ?_
  refine r_iconst (pc := 18) C (0) dX6_leaveAt_18 (by decide) ?_
  refine r_aload_n (pc := 19) C dX6_leaveAt_19 rfl ?_
  refine r_get (pc := 20) C fX6_21 dX6_leaveAt_20 (k_0 ha) rfl ?_
  refine r_iload_n (pc := 23) C dX6_leaveAt_23 rfl ?_
  refine q_sIf (pc := 24) C kX6_39 dX6_leaveAt_24 (c_X6_mendedBy) rfl rfl (Nat.le_of_ble_eq_true rfl) (by decide) ⟨by decide, by decide⟩ ?_
  refine r_isub (pc := 27) C dX6_leaveAt_27 ?_
  refine r_mmax (pc := 28) C kX6_33 dX6_leaveAt_28 (by decide) (Nat.le_of_ble_eq_true rfl) ⟨by decide, by decide⟩ kmX6_33 ?_
  refine q_val (meW (f a 3) (L - f a 6)) (by rw [← mxm]; simp only [u2_up, up_at, upd]; rfl) ?_
  refine r_put (pc := 31) C fX6_21 ftX6_3 dX6_leaveAt_31 (k_0 ha) rfl ?_
  refine r_aload_n (pc := 34) C dX6_leaveAt_34 rfl ?_
  refine r_iload_n (pc := 35) C dX6_leaveAt_35 rfl ?_
  refine r_put (pc := 36) C fX6_24 ftX6_4 dX6_leaveAt_36 (k_0 ha) rfl ?_
  refine q_vret (pc := 39) C dX6_leaveAt_39 rfl ?_
  show _ = _
  simp only [leaveR, u2_up, up_up, up_at]
