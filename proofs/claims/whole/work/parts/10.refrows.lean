/-! THE REFERENCE: rows, tape, small reads -/
theorem nI_addE {x y : Int32} {a b : Nat} (hx : x = nI a) (hy : y = nI b) : x + y = nI (a + b) := by rw [hx, hy]; exact nI_add a b
theorem pk_mulE {x y : Int32} {a b : Nat} (hx : x = nI a) (hy : y = nI b) : x * y = nI (a * b) := by rw [hx, hy]; exact pk_mul a b
def inR (x : Int32) (n : Nat) : Bool := decide (0 ≤ x.toInt ∧ x.toInt < n)
theorem inR_of {x : Int32} {n : Nat} (h : inR x n = true) : ∃ j : Nat, j < n ∧ x = nI j := by
  have h1 := of_decide_eq_true h
  obtain ⟨j, hj, e⟩ := nI_of (x := x) (by rw [Int32.lt_iff_toInt_lt]; simp; exact h1.1)
  subst e
  rw [nI_toInt hj] at h1
  exact ⟨j, by omega, rfl⟩
theorem inR_nI {j n : Nat} (h : j < n) (hb : j < 2147483648) : inR (nI j) n = true := by
  unfold inR
  rw [nI_toInt hb]
  simp; omega
theorem inR_not {j n : Nat} (h : n ≤ j) (hb : j < 2147483648) : inR (nI j) n = false := by
  unfold inR
  rw [nI_toInt hb]
  simp; omega
theorem c_in0 {G : GG} {kn : Nat} {f : MM} {x hi : Int32} {b c : Int64} (n : Nat) (hb : b = 0) (hc : c = hi.toInt64) (hn : hi.toInt + 1 = n) : CI G mX9_in 1 kn [.long x.toInt64, .long b, .long c] f (b1 (inR x n)) f := by
  subst hb
  have e : inR x n = decide ((0 : Int32) ≤ x ∧ x ≤ hi) := decide_eq_decide.mpr (by rw [Int32.le_iff_toInt_le, Int32.le_iff_toInt_le, ← hn]; simp; omega)
  rw [e]
  exact c_X9_in (lo := 0) (by decide) hc
theorem c_blw {G : GG} {kn : Nat} {f : MM} {a b : Int32} (n : Nat) (hb : b = nI n) (hn : n < 2147483648) : CI G mX8_isBelow 1 kn [.int a, .int b] f (b1 (inR a n)) f := by
  subst hb
  have e : inR a n = decide (0 ≤ a ∧ a < nI n) := decide_eq_decide.mpr (by rw [Int32.le_iff_toInt_le, Int32.lt_iff_toInt_lt, nI_toInt hn]; simp)
  rw [e]
  exact c_X8_isBelow
def tn (x : Int32) : Nat := x.toNatClampNeg
theorem tn_nI {j : Nat} (h : j < 2147483648) : tn (nI j) = j := nI_clamp h
theorem pr {α β : Type} {p : α × β} {v : α} {g : β} (h : p = (v, g)) : v = p.1 ∧ g = p.2 := by subst h; exact ⟨rfl, rfl⟩
theorem nI_nat {x : Int32} (h : 0 ≤ x) : x = nI (tn x) := by
  obtain ⟨j, hj, e⟩ := nI_of (x := x) (Int32.not_lt.mpr h)
  subst e
  rw [tn_nI hj]
theorem i32nn {x : Int32} : ¬ x < 0 ↔ 0 ≤ x := Int32.not_lt
theorem nI_m1 {n : Nat} (h : n ≤ 100000) : (nI n - 1).toInt + 1 = (n : Int) := by
  have h2 := pk_sub_toInt (a := n) (b := 1) (by omega) (by omega)
  rw [show (1 : Int32) = nI 1 from rfl, h2]
  omega
/-- a stretch of a row filled with 0, one place more -/
theorem fill_step {g0 : MM} {c a i : Nat} (h : 0 < 1) : u2 (fun k b => if k = c ∧ a ≤ b ∧ b < a + i then 0 else g0 k b) c (a + i) 0 = (fun k b => if k = c ∧ a ≤ b ∧ b < a + (i + 1) then 0 else g0 k b) := by
  funext k b
  simp only [u2]
  by_cases hk : k = c
  · by_cases hb : b = a + i
    · subst hb
      rw [if_pos ⟨hk, rfl⟩, if_pos ⟨hk, by omega, by omega⟩]
    · rw [if_neg (fun q => hb q.2)]
      by_cases h1 : k = c ∧ a ≤ b ∧ b < a + i
      · rw [if_pos h1, if_pos ⟨hk, h1.2.1, by omega⟩]
      · rw [if_neg h1, if_neg (fun q => h1 ⟨hk, q.2.1, by omega⟩)]
  · rw [if_neg (fun q => hk q.1), if_neg (fun q => hk q.1), if_neg (fun q => hk q.1)]
/-- a number cut to a lane -/
def asL (lane v : Int32) : Int32 := if lane = 0 then v <<< ((24 : Int32) &&& 31) >>> ((24 : Int32) &&& 31) else if lane = 1 then v <<< ((16 : Int32) &&& 31) >>> ((16 : Int32) &&& 31) else v

set_option maxRecDepth 100000 in
set_option maxHeartbeats 4000000 in
theorem c_X9_find {G : GG} {kn : Nat} {f : MM} {a : Int32} : CI G mX9_find 1 kn [.ref (G.1 + 85), .int a] f (-1000010 - a) (u2 f 85 3 a) := by
  refine Ct.of [some (.ref (G.1 + 85)), some (.int a)] rfl (by decide +kernel) rfl (Nat.le_of_ble_eq_true rfl) rfl ?_
  intro X C
  refine r_aload_n (pc := 0) C dX9_find_0 rfl ?_
  refine r_iload_n (pc := 1) C dX9_find_1 rfl ?_
  refine r_put (pc := 2) C fX9_59 ftX9_3 dX9_find_2 (s_85 _) rfl ?_
  refine r_ldc (pc := 5) C (-1000010) kX9_63 dX9_find_5 ?_
  refine r_iload_n (pc := 7) C dX9_find_7 rfl ?_
  refine r_isub (pc := 8) C dX9_find_8 ?_
  refine q_iret (pc := 9) C dX9_find_9 rfl ?_
  exact ⟨rfl, rfl⟩
set_option maxRecDepth 100000 in
set_option maxHeartbeats 4000000 in
theorem c_X9_well {G : GG} {kn : Nat} {f : MM} {a : Int32} : CI G mX9_well 1 kn [.ref (G.1 + 85), .int a] f a (u2 f 85 3 0) := by
  refine Ct.of [some (.ref (G.1 + 85)), some (.int a)] rfl (by decide +kernel) rfl (Nat.le_of_ble_eq_true rfl) rfl ?_
  intro X C
  refine r_aload_n (pc := 0) C dX9_well_0 rfl ?_
  refine r_iconst (pc := 1) C (0) dX9_well_1 (by decide) ?_
  refine r_put (pc := 2) C fX9_59 ftX9_3 dX9_well_2 (s_85 _) rfl ?_
  refine r_iload_n (pc := 5) C dX9_well_5 rfl ?_
  refine q_iret (pc := 6) C dX9_well_6 rfl ?_
  exact ⟨rfl, rfl⟩
set_option maxRecDepth 100000 in
set_option maxHeartbeats 4000000 in
theorem c_X9_isRow {G : GG} {kn : Nat} {f : MM} {a : Int32} : CI G mX9_isRow 2 kn [.int a] f (b1 (inR a 8)) f := by
  refine Ct.of [some (.int a)] rfl (by decide +kernel) rfl (Nat.le_of_ble_eq_true rfl) rfl ?_
  intro X C
  refine r_iload_n (pc := 0) C dX9_isRow_0 rfl ?_
  refine r_i2l (pc := 1) C dX9_isRow_1 ?_
  refine r_lconst (pc := 2) C (0) dX9_isRow_2 (by decide) ?_
  refine r_ldc2 (pc := 3) C (7) kX9_64 dX9_isRow_3 ?_
  refine q_sIf (pc := 6) C kX9_66 dX9_isRow_6 (c_in0 (hi := 7) 8 rfl (by decide) (by decide)) rfl rfl (Nat.le_of_ble_eq_true rfl) (by decide) ⟨by decide, by decide⟩ ?_
  refine q_zret (pc := 9) C dX9_isRow_9 rfl (b1_z _) ?_
  exact ⟨rfl, rfl⟩
def R_rowF (f : MM) (j : Nat) (l n : Int32) : MM := u2 (fun k b => if k = 88 ∧ 40 * j ≤ b ∧ b < 40 * j + 40 then 0 else u2 (u2 f 86 j l) 87 j n k b) 85 3 0
def R_row (f : MM) (r l n : Int32) : Int32 × MM :=
  if inR r 8 = true then if inR l 3 = true then if n ≤ 40 then if 0 ≤ n then (n, R_rowF f (tn r) l n) else (-1000014, u2 f 85 3 4) else (-1000001, f) else (-1000001, f) else (-1000001, f)
set_option maxRecDepth 100000 in
set_option maxHeartbeats 4000000 in
theorem l_X9_row {X : XT} {G : GG} {kn : Nat} {Q : State → Prop} {g0 : MM} {j : Nat} {l n : Int32} (C : Cx X G mX9_row 3 0 0 (NN kn)) (hj : j < 8) (K : ∀ g : MM, (fun i g => g = (fun k b => if k = 88 ∧ 40 * j ≤ b ∧ b < 40 * j + i then 0 else g0 k b)) 40 g → Vw X G mX9_row.2.2.2.1 0 0 Q (NN kn) (shF kn) g 81 [some (.ref (G.1 + 85)), some (.int (nI j)), some (.int l), some (.int n), some (.int (nI 40))] []) : ∀ (m i : Nat) (g : MM), i + m = 40 → (fun i g => g = (fun k b => if k = 88 ∧ 40 * j ≤ b ∧ b < 40 * j + i then 0 else g0 k b)) i g → Vw X G mX9_row.2.2.2.1 0 0 Q (NN kn) (shF kn) g 55 [some (.ref (G.1 + 85)), some (.int (nI j)), some (.int l), some (.int n), some (.int (nI i))] [] := by
  intro m
  induction m with
  | zero =>
    intro i g hm hg
    obtain rfl : 40 = i := by omega
    refine r_iload (pc := 55) C dX9_row_55 rfl ?_
    refine r_bipush (pc := 57) C (40) dX9_row_57 (by decide) ?_
    refine q_ge (pc := 59) C 40 40 81 rfl rfl (by omega) (by omega) dX9_row_59 (by decide) (fun c59 => ?_) (fun c59 => ?_)
    · exact K _ hg
    · exact absurd c59 (by omega)
  | succ m ih =>
    intro i g hm hg
    refine r_iload (pc := 55) C dX9_row_55 rfl ?_
    refine r_bipush (pc := 57) C (40) dX9_row_57 (by decide) ?_
    refine q_ge (pc := 59) C i 40 81 rfl rfl (by omega) (by omega) dX9_row_59 (by decide) (fun c59 => ?_) (fun c59 => ?_)
    · exact absurd c59 (by omega)
    · refine r_aload_n (pc := 62) C dX9_row_62 rfl ?_
      refine r_getr (pc := 63) C fX9_16 dX9_row_63 (s_85 _) rfl rfl ?_
      refine r_bipush (pc := 66) C (40) dX9_row_66 (by decide) ?_
      refine r_iload_n (pc := 68) C dX9_row_68 rfl ?_
      refine r_imul (pc := 69) C dX9_row_69 ?_
      refine r_iload (pc := 70) C dX9_row_70 rfl ?_
      refine r_iadd (pc := 72) C dX9_row_72 ?_
      refine r_iconst (pc := 73) C (0) dX9_row_73 (by decide) ?_
      refine q_iast (pc := 74) C ((40 * j) + i) dX9_row_74 (s_88 _) (sn_88 _) (nI_addE (pk_mul 40 j) rfl) (by omega) (by decide) ?_
      refine r_iinc (pc := 75) C (nI (i + 1)) dX9_row_75 rfl (nI_inc _) (by decide) rfl ?_
      refine r_goto (pc := 78) C 55 dX9_row_78 (by decide) ?_
      refine ih (i + 1) _ (by omega) ?_
      subst hg
      exact fill_step (by omega)
set_option maxRecDepth 100000 in
set_option maxHeartbeats 4000000 in
theorem c_X9_row {G : GG} {kn : Nat} {f : MM} {a b c : Int32} : CI G mX9_row 3 kn [.ref (G.1 + 85), .int a, .int b, .int c] f (R_row f a b c).1 (R_row f a b c).2 := by
  refine Ct.of [some (.ref (G.1 + 85)), some (.int a), some (.int b), some (.int c), none] rfl (by decide +kernel) rfl (Nat.le_of_ble_eq_true rfl) rfl ?_
  intro X C
  refine r_iload_n (pc := 0) C dX9_row_0 rfl ?_
  refine q_sIf (pc := 1) C kX9_70 dX9_row_1 (c_X9_isRow) rfl rfl (Nat.le_of_ble_eq_true rfl) (by decide) ⟨by decide, by decide⟩ ?_
  refine r_if_eq (pc := 4) C 25 dX9_row_4 (by decide) (fun c4 => ?_) (fun c4 => ?_)
  · replace c4 := b1_0 c4
    refine r_ldc (pc := 25) C (-1000001) kX9_76 dX9_row_25 ?_
    refine q_iret (pc := 27) C dX9_row_27 rfl ?_
    exact pr (by simp [R_row, *])
  · replace c4 := b1_1 c4
    obtain ⟨j, hj, rfl⟩ := inR_of c4
    refine r_iload_n (pc := 7) C dX9_row_7 rfl ?_
    refine r_i2l (pc := 8) C dX9_row_8 ?_
    refine r_lconst (pc := 9) C (0) dX9_row_9 (by decide) ?_
    refine r_ldc2 (pc := 10) C (2) kX9_74 dX9_row_10 ?_
    refine q_sIf (pc := 13) C kX9_66 dX9_row_13 (c_in0 (hi := 2) 3 rfl (by decide) (by decide)) rfl rfl (Nat.le_of_ble_eq_true rfl) (by decide) ⟨by decide, by decide⟩ ?_
    refine r_if_eq (pc := 16) C 25 dX9_row_16 (by decide) (fun c16 => ?_) (fun c16 => ?_)
    · replace c16 := b1_0 c16
      refine r_ldc (pc := 25) C (-1000001) kX9_76 dX9_row_25 ?_
      refine q_iret (pc := 27) C dX9_row_27 rfl ?_
      exact pr (by simp [R_row, *])
    · replace c16 := b1_1 c16
      refine r_iload_n (pc := 19) C dX9_row_19 rfl ?_
      refine r_bipush (pc := 20) C (40) dX9_row_20 (by decide) ?_
      refine r_icmp_le (pc := 22) C 28 dX9_row_22 (by decide) (fun c22 => ?_) (fun c22 => ?_)
      · refine r_iload_n (pc := 28) C dX9_row_28 rfl ?_
        refine r_if_ge (pc := 29) C 38 dX9_row_29 (by decide) (fun c29 => ?_) (fun c29 => ?_)
        · refine r_aload_n (pc := 38) C dX9_row_38 rfl ?_
          refine r_getr (pc := 39) C fX9_7 dX9_row_39 (s_85 _) rfl rfl ?_
          refine r_iload_n (pc := 42) C dX9_row_42 rfl ?_
          refine r_iload_n (pc := 43) C dX9_row_43 rfl ?_
          refine q_iast (pc := 44) C j dX9_row_44 (s_86 _) (sn_86 _) rfl (by omega) (by decide) ?_
          refine r_aload_n (pc := 45) C dX9_row_45 rfl ?_
          refine r_getr (pc := 46) C fX9_13 dX9_row_46 (s_85 _) rfl rfl ?_
          refine r_iload_n (pc := 49) C dX9_row_49 rfl ?_
          refine r_iload_n (pc := 50) C dX9_row_50 rfl ?_
          refine q_iast (pc := 51) C j dX9_row_51 (s_87 _) (sn_87 _) rfl (by omega) (by decide) ?_
          refine r_iconst (pc := 52) C (0) dX9_row_52 (by decide) ?_
          refine r_istore (pc := 53) C dX9_row_53 (by decide) rfl ?_
          refine l_X9_row (j := j) (g0 := u2 (u2 f 86 j b) 87 j c) C hj ?_ 40 0 _ rfl (by funext k b; rw [if_neg (by omega)])
          intro g hg
          subst hg
          refine r_aload_n (pc := 81) C dX9_row_81 rfl ?_
          refine r_iload_n (pc := 82) C dX9_row_82 rfl ?_
          refine q_vIf (pc := 83) C kX9_81 dX9_row_83 (c_X9_well) (s_85 _) rfl rfl (Nat.le_of_ble_eq_true rfl) (by decide) ⟨by decide, by decide⟩ ?_
          refine q_iret (pc := 86) C dX9_row_86 rfl ?_
          exact pr (by simp [R_row, R_rowF, c4, c16, c22, c29, tn_nI (show j < 2147483648 by omega)])
        · refine r_aload_n (pc := 32) C dX9_row_32 rfl ?_
          refine r_iconst (pc := 33) C (4) dX9_row_33 (by decide) ?_
          refine q_vIf (pc := 34) C kX9_77 dX9_row_34 (c_X9_find) (s_85 _) rfl rfl (Nat.le_of_ble_eq_true rfl) (by decide) ⟨by decide, by decide⟩ ?_
          refine q_iret (pc := 37) C dX9_row_37 rfl ?_
          exact pr (by simp [R_row, *])
      · refine r_ldc (pc := 25) C (-1000001) kX9_76 dX9_row_25 ?_
        refine q_iret (pc := 27) C dX9_row_27 rfl ?_
        exact pr (by simp [R_row, *])
set_option maxRecDepth 100000 in
set_option maxHeartbeats 4000000 in
theorem c_X9_asLane {G : GG} {kn : Nat} {f : MM} {a b : Int32} : CI G mX9_asLane 1 kn [.int a, .int b] f (asL a b) f := by
  refine Ct.of [some (.int a), some (.int b)] rfl (by decide +kernel) rfl (Nat.le_of_ble_eq_true rfl) rfl ?_
  intro X C
  refine r_iload_n (pc := 0) C dX9_asLane_0 rfl ?_
  refine r_if_ne (pc := 1) C 14 dX9_asLane_1 (by decide) (fun c1 => ?_) (fun c1 => ?_)
  · refine r_iload_n (pc := 14) C dX9_asLane_14 rfl ?_
    refine r_iconst (pc := 15) C (1) dX9_asLane_15 (by decide) ?_
    refine r_icmp_ne (pc := 16) C 29 dX9_asLane_16 (by decide) (fun c16 => ?_) (fun c16 => ?_)
    · refine r_iload_n (pc := 29) C dX9_asLane_29 rfl ?_
      refine q_iret (pc := 30) C dX9_asLane_30 rfl ?_
      exact ⟨by simp [asL, *], rfl⟩
    · refine r_iload_n (pc := 19) C dX9_asLane_19 rfl ?_
      refine r_bipush (pc := 20) C (16) dX9_asLane_20 (by decide) ?_
      refine r_ishl (pc := 22) C dX9_asLane_22 ?_
      refine r_bipush (pc := 23) C (16) dX9_asLane_23 (by decide) ?_
      refine r_ishr (pc := 25) C dX9_asLane_25 ?_
      refine r_goto (pc := 26) C 30 dX9_asLane_26 (by decide) ?_
      refine q_iret (pc := 30) C dX9_asLane_30 rfl ?_
      exact ⟨by simp [asL, *], rfl⟩
  · refine r_iload_n (pc := 4) C dX9_asLane_4 rfl ?_
    refine r_bipush (pc := 5) C (24) dX9_asLane_5 (by decide) ?_
    refine r_ishl (pc := 7) C dX9_asLane_7 ?_
    refine r_bipush (pc := 8) C (24) dX9_asLane_8 (by decide) ?_
    refine r_ishr (pc := 10) C dX9_asLane_10 ?_
    refine r_goto (pc := 11) C 30 dX9_asLane_11 (by decide) ?_
    refine q_iret (pc := 30) C dX9_asLane_30 rfl ?_
    exact ⟨by simp [asL, *], rfl⟩
/-- the sizes that are there are sizes -/
def szOK (f : MM) : Prop := ∀ j, j < 8 → (f 87 j = -1 ∨ ∃ n, n ≤ 40 ∧ f 87 j = nI n)
theorem szOK.of {f : MM} (h : szOK f) {j : Nat} (hj : j < 8) (h0 : 0 ≤ f 87 j) : ∃ n, n ≤ 40 ∧ f 87 j = nI n := by
  rcases h j hj with e | e
  · rw [e] at h0; exact absurd h0 (by decide)
  · exact e
def R_set (f : MM) (r i v : Int32) : Int32 × MM :=
  if inR r 8 = true then if 0 ≤ f 87 (tn r) then if inR i (tn (f 87 (tn r))) = true then (asL (f 86 (tn r)) v, u2 (u2 f 88 (40 * tn r + tn i) (asL (f 86 (tn r)) v)) 85 3 0) else (-1000012, u2 f 85 3 2) else (-1000011, u2 f 85 3 1) else (-1000001, f)
set_option maxRecDepth 100000 in
set_option maxHeartbeats 4000000 in
theorem c_X9_set {G : GG} {kn : Nat} {f : MM} (hsz : szOK f) {a b c : Int32} : CI G mX9_set 3 kn [.ref (G.1 + 85), .int a, .int b, .int c] f (R_set f a b c).1 (R_set f a b c).2 := by
  refine Ct.of [some (.ref (G.1 + 85)), some (.int a), some (.int b), some (.int c)] rfl (by decide +kernel) rfl (Nat.le_of_ble_eq_true rfl) rfl ?_
  intro X C
  refine r_iload_n (pc := 0) C dX9_set_0 rfl ?_
  refine q_sIf (pc := 1) C kX9_70 dX9_set_1 (c_X9_isRow) rfl rfl (Nat.le_of_ble_eq_true rfl) (by decide) ⟨by decide, by decide⟩ ?_
  refine r_if_ne (pc := 4) C 10 dX9_set_4 (by decide) (fun c4 => ?_) (fun c4 => ?_)
  · replace c4 := b1_1 c4
    obtain ⟨j, hj, rfl⟩ := inR_of c4
    have tj : tn (nI j) = j := tn_nI (by omega)
    refine r_aload_n (pc := 10) C dX9_set_10 rfl ?_
    refine r_getr (pc := 11) C fX9_13 dX9_set_11 (s_85 _) rfl rfl ?_
    refine r_iload_n (pc := 14) C dX9_set_14 rfl ?_
    refine q_iald (pc := 15) C j dX9_set_15 (s_87 _) (sn_87 _) rfl (by omega) (by decide) ?_
    refine r_if_ge (pc := 16) C 25 dX9_set_16 (by decide) (fun c16 => ?_) (fun c16 => ?_)
    · obtain ⟨n, hn, en⟩ := hsz.of hj c16
      have tnn : tn (f 87 j) = n := by rw [en, tn_nI (by omega)]
      refine r_iload_n (pc := 25) C dX9_set_25 rfl ?_
      refine r_i2l (pc := 26) C dX9_set_26 ?_
      refine r_lconst (pc := 27) C (0) dX9_set_27 (by decide) ?_
      refine r_aload_n (pc := 28) C dX9_set_28 rfl ?_
      refine r_getr (pc := 29) C fX9_13 dX9_set_29 (s_85 _) rfl rfl ?_
      refine r_iload_n (pc := 32) C dX9_set_32 rfl ?_
      refine q_iald (pc := 33) C j dX9_set_33 (s_87 _) (sn_87 _) rfl (by omega) (by decide) ?_
      refine r_iconst (pc := 34) C (1) dX9_set_34 (by decide) ?_
      refine r_isub (pc := 35) C dX9_set_35 ?_
      refine r_i2l (pc := 36) C dX9_set_36 ?_
      refine q_sIf (pc := 37) C kX9_66 dX9_set_37 (c_in0 (hi := f 87 j - 1) n rfl rfl (by rw [en]; exact nI_m1 (by omega))) rfl rfl (Nat.le_of_ble_eq_true rfl) (by decide) ⟨by decide, by decide⟩ ?_
      refine r_if_ne (pc := 40) C 49 dX9_set_40 (by decide) (fun c40 => ?_) (fun c40 => ?_)
      · replace c40 := b1_1 c40
        obtain ⟨i, hi, rfl⟩ := inR_of c40
        have ti : tn (nI i) = i := tn_nI (by omega)
        refine r_aload_n (pc := 49) C dX9_set_49 rfl ?_
        refine r_getr (pc := 50) C fX9_16 dX9_set_50 (s_85 _) rfl rfl ?_
        refine r_bipush (pc := 53) C (40) dX9_set_53 (by decide) ?_
        refine r_iload_n (pc := 55) C dX9_set_55 rfl ?_
        refine r_imul (pc := 56) C dX9_set_56 ?_
        refine r_iload_n (pc := 57) C dX9_set_57 rfl ?_
        refine r_iadd (pc := 58) C dX9_set_58 ?_
        refine r_aload_n (pc := 59) C dX9_set_59 rfl ?_
        refine r_getr (pc := 60) C fX9_7 dX9_set_60 (s_85 _) rfl rfl ?_
        refine r_iload_n (pc := 63) C dX9_set_63 rfl ?_
        refine q_iald (pc := 64) C j dX9_set_64 (s_86 _) (sn_86 _) rfl (by omega) (by decide) ?_
        refine r_iload_n (pc := 65) C dX9_set_65 rfl ?_
        refine q_sIf (pc := 66) C kX9_84 dX9_set_66 (c_X9_asLane) rfl rfl (Nat.le_of_ble_eq_true rfl) (by decide) ⟨by decide, by decide⟩ ?_
        refine q_iast (pc := 69) C ((40 * j) + i) dX9_set_69 (s_88 _) (sn_88 _) (nI_addE (pk_mul 40 j) rfl) (by omega) (by decide) ?_
        refine r_aload_n (pc := 70) C dX9_set_70 rfl ?_
        refine r_aload_n (pc := 71) C dX9_set_71 rfl ?_
        refine r_getr (pc := 72) C fX9_16 dX9_set_72 (s_85 _) rfl rfl ?_
        refine r_bipush (pc := 75) C (40) dX9_set_75 (by decide) ?_
        refine r_iload_n (pc := 77) C dX9_set_77 rfl ?_
        refine r_imul (pc := 78) C dX9_set_78 ?_
        refine r_iload_n (pc := 79) C dX9_set_79 rfl ?_
        refine r_iadd (pc := 80) C dX9_set_80 ?_
        refine q_iald (pc := 81) C ((40 * j) + i) dX9_set_81 (s_88 _) (sn_88 _) (nI_addE (pk_mul 40 j) rfl) (by omega) (by decide) ?_
        refine q_vIf (pc := 82) C kX9_81 dX9_set_82 (c_X9_well) (s_85 _) rfl rfl (Nat.le_of_ble_eq_true rfl) (by decide) ⟨by decide, by decide⟩ ?_
        refine q_iret (pc := 85) C dX9_set_85 rfl ?_
        exact pr (by simp [R_set, u2, c4, tj, c16, tnn, c40, ti])
      · replace c40 := b1_0 c40
        refine r_aload_n (pc := 43) C dX9_set_43 rfl ?_
        refine r_iconst (pc := 44) C (2) dX9_set_44 (by decide) ?_
        refine q_vIf (pc := 45) C kX9_77 dX9_set_45 (c_X9_find) (s_85 _) rfl rfl (Nat.le_of_ble_eq_true rfl) (by decide) ⟨by decide, by decide⟩ ?_
        refine q_iret (pc := 48) C dX9_set_48 rfl ?_
        exact pr (by simp [R_set, u2, c4, tj, c16, tnn, c40])
    · refine r_aload_n (pc := 19) C dX9_set_19 rfl ?_
      refine r_iconst (pc := 20) C (1) dX9_set_20 (by decide) ?_
      refine q_vIf (pc := 21) C kX9_77 dX9_set_21 (c_X9_find) (s_85 _) rfl rfl (Nat.le_of_ble_eq_true rfl) (by decide) ⟨by decide, by decide⟩ ?_
      refine q_iret (pc := 24) C dX9_set_24 rfl ?_
      exact pr (by simp [R_set, u2, c4, tj, c16])
  · replace c4 := b1_0 c4
    refine r_ldc (pc := 7) C (-1000001) kX9_76 dX9_set_7 ?_
    refine q_iret (pc := 9) C dX9_set_9 rfl ?_
    exact pr (by simp [R_set, u2, c4])
def R_drop (f : MM) (r : Int32) : Int32 × MM :=
  if inR r 8 = true then if 0 ≤ f 87 (tn r) then (f 87 (tn r), u2 (u2 f 87 (tn r) (-1)) 85 3 0) else (-1000011, u2 f 85 3 1) else (-1000001, f)
set_option maxRecDepth 100000 in
set_option maxHeartbeats 4000000 in
theorem c_X9_drop {G : GG} {kn : Nat} {f : MM} {a : Int32} : CI G mX9_drop 3 kn [.ref (G.1 + 85), .int a] f (R_drop f a).1 (R_drop f a).2 := by
  refine Ct.of [some (.ref (G.1 + 85)), some (.int a), none] rfl (by decide +kernel) rfl (Nat.le_of_ble_eq_true rfl) rfl ?_
  intro X C
  refine r_iload_n (pc := 0) C dX9_drop_0 rfl ?_
  refine q_sIf (pc := 1) C kX9_70 dX9_drop_1 (c_X9_isRow) rfl rfl (Nat.le_of_ble_eq_true rfl) (by decide) ⟨by decide, by decide⟩ ?_
  refine r_if_ne (pc := 4) C 10 dX9_drop_4 (by decide) (fun c4 => ?_) (fun c4 => ?_)
  · replace c4 := b1_1 c4
    obtain ⟨j, hj, rfl⟩ := inR_of c4
    have tj : tn (nI j) = j := tn_nI (by omega)
    refine r_aload_n (pc := 10) C dX9_drop_10 rfl ?_
    refine r_getr (pc := 11) C fX9_13 dX9_drop_11 (s_85 _) rfl rfl ?_
    refine r_iload_n (pc := 14) C dX9_drop_14 rfl ?_
    refine q_iald (pc := 15) C j dX9_drop_15 (s_87 _) (sn_87 _) rfl (by omega) (by decide) ?_
    refine r_if_ge (pc := 16) C 25 dX9_drop_16 (by decide) (fun c16 => ?_) (fun c16 => ?_)
    · refine r_aload_n (pc := 25) C dX9_drop_25 rfl ?_
      refine r_getr (pc := 26) C fX9_13 dX9_drop_26 (s_85 _) rfl rfl ?_
      refine r_iload_n (pc := 29) C dX9_drop_29 rfl ?_
      refine q_iald (pc := 30) C j dX9_drop_30 (s_87 _) (sn_87 _) rfl (by omega) (by decide) ?_
      refine r_istore_n (pc := 31) C dX9_drop_31 (by decide) rfl ?_
      refine r_aload_n (pc := 32) C dX9_drop_32 rfl ?_
      refine r_getr (pc := 33) C fX9_13 dX9_drop_33 (s_85 _) rfl rfl ?_
      refine r_iload_n (pc := 36) C dX9_drop_36 rfl ?_
      refine r_iconst (pc := 37) C (-1) dX9_drop_37 (by decide) ?_
      refine q_iast (pc := 38) C j dX9_drop_38 (s_87 _) (sn_87 _) rfl (by omega) (by decide) ?_
      refine r_aload_n (pc := 39) C dX9_drop_39 rfl ?_
      refine r_iload_n (pc := 40) C dX9_drop_40 rfl ?_
      refine q_vIf (pc := 41) C kX9_81 dX9_drop_41 (c_X9_well) (s_85 _) rfl rfl (Nat.le_of_ble_eq_true rfl) (by decide) ⟨by decide, by decide⟩ ?_
      refine q_iret (pc := 44) C dX9_drop_44 rfl ?_
      exact pr (by simp [R_drop, *])
    · refine r_aload_n (pc := 19) C dX9_drop_19 rfl ?_
      refine r_iconst (pc := 20) C (1) dX9_drop_20 (by decide) ?_
      refine q_vIf (pc := 21) C kX9_77 dX9_drop_21 (c_X9_find) (s_85 _) rfl rfl (Nat.le_of_ble_eq_true rfl) (by decide) ⟨by decide, by decide⟩ ?_
      refine q_iret (pc := 24) C dX9_drop_24 rfl ?_
      exact pr (by simp [R_drop, *])
  · replace c4 := b1_0 c4
    refine r_ldc (pc := 7) C (-1000001) kX9_76 dX9_drop_7 ?_
    refine q_iret (pc := 9) C dX9_drop_9 rfl ?_
    exact pr (by simp [R_drop, *])
def R_feed (f : MM) (a : Int32) : Int32 × MM :=
  if inR a 256 = true then if f 85 8 = 120 then (-1000003, f) else (f 85 8 + 1, u2 (u2 f 91 (tn (f 85 8)) a) 85 8 (f 85 8 + 1)) else (-1000001, f)
set_option maxRecDepth 100000 in
set_option maxHeartbeats 4000000 in
theorem c_X9_feed {G : GG} {kn : Nat} {f : MM} {q : Nat} (hq : q ≤ 120) (eq : f 85 8 = nI q) {a : Int32} : CI G mX9_feed 2 kn [.ref (G.1 + 85), .int a] f (R_feed f a).1 (R_feed f a).2 := by
  refine Ct.of [some (.ref (G.1 + 85)), some (.int a)] rfl (by decide +kernel) rfl (Nat.le_of_ble_eq_true rfl) rfl ?_
  intro X C
  have tq : tn (f 85 8) = q := by rw [eq, tn_nI (by omega)]
  refine r_iload_n (pc := 0) C dX9_feed_0 rfl ?_
  refine r_i2l (pc := 1) C dX9_feed_1 ?_
  refine r_lconst (pc := 2) C (0) dX9_feed_2 (by decide) ?_
  refine r_ldc2 (pc := 3) C (255) kX9_88 dX9_feed_3 ?_
  refine q_sIf (pc := 6) C kX9_66 dX9_feed_6 (c_in0 (hi := 255) 256 rfl (by decide) (by decide)) rfl rfl (Nat.le_of_ble_eq_true rfl) (by decide) ⟨by decide, by decide⟩ ?_
  refine r_if_ne (pc := 9) C 15 dX9_feed_9 (by decide) (fun c9 => ?_) (fun c9 => ?_)
  · replace c9 := b1_1 c9
    refine r_aload_n (pc := 15) C dX9_feed_15 rfl ?_
    refine r_get (pc := 16) C fX9_90 dX9_feed_16 (s_85 _) rfl ?_
    refine r_bipush (pc := 19) C (120) dX9_feed_19 (by decide) ?_
    refine r_icmp_ne (pc := 21) C 27 dX9_feed_21 (by decide) (fun c21 => ?_) (fun c21 => ?_)
    · have q120 : q < 120 := by
        rcases Nat.lt_or_ge q 120 with z | z
        · exact z
        · exact absurd (by rw [eq, show q = 120 by omega]; rfl) c21
      refine r_aload_n (pc := 27) C dX9_feed_27 rfl ?_
      refine r_getr (pc := 28) C fX9_25 dX9_feed_28 (s_85 _) rfl rfl ?_
      refine r_aload_n (pc := 31) C dX9_feed_31 rfl ?_
      refine r_get (pc := 32) C fX9_90 dX9_feed_32 (s_85 _) rfl ?_
      refine r_iload_n (pc := 35) C dX9_feed_35 rfl ?_
      refine q_iast (pc := 36) C q dX9_feed_36 (s_91 _) (sn_91 _) eq (by omega) (by decide) ?_
      refine r_aload_n (pc := 37) C dX9_feed_37 rfl ?_
      refine r_dup (pc := 38) C dX9_feed_38 rfl ?_
      refine r_get (pc := 39) C fX9_90 dX9_feed_39 (s_85 _) rfl ?_
      refine r_iconst (pc := 42) C (1) dX9_feed_42 (by decide) ?_
      refine r_iadd (pc := 43) C dX9_feed_43 ?_
      refine r_put (pc := 44) C fX9_90 ftX9_8 dX9_feed_44 (s_85 _) rfl ?_
      refine r_aload_n (pc := 47) C dX9_feed_47 rfl ?_
      refine r_get (pc := 48) C fX9_90 dX9_feed_48 (s_85 _) rfl ?_
      refine q_iret (pc := 51) C dX9_feed_51 rfl ?_
      exact pr (by simp [R_feed, u2, tq, c9, c21])
    · refine r_ldc (pc := 24) C (-1000003) kX9_93 dX9_feed_24 ?_
      refine q_iret (pc := 26) C dX9_feed_26 rfl ?_
      exact pr (by simp [R_feed, u2, tq, c9, c21])
  · replace c9 := b1_0 c9
    refine r_ldc (pc := 12) C (-1000001) kX9_76 dX9_feed_12 ?_
    refine q_iret (pc := 14) C dX9_feed_14 rfl ?_
    exact pr (by simp [R_feed, u2, tq, c9])
def hasB (s : Int32) (i : Nat) : Bool := ((s >>> (nI i &&& 31)) &&& 1) == 1
set_option maxRecDepth 100000 in
set_option maxHeartbeats 4000000 in
theorem c_X9_has {G : GG} {kn : Nat} {f : MM} {a b : Int32} {i : Nat} (hb : b = nI i) : CI G mX9_has 1 kn [.int a, .int b] f (b1 (hasB a i)) f := by
  refine Ct.of [some (.int a), some (.int b)] rfl (by decide +kernel) rfl (Nat.le_of_ble_eq_true rfl) rfl ?_
  intro X C
  subst hb
  refine r_iload_n (pc := 0) C dX9_has_0 rfl ?_
  refine r_iload_n (pc := 1) C dX9_has_1 rfl ?_
  refine r_ishr (pc := 2) C dX9_has_2 ?_
  refine r_iconst (pc := 3) C (1) dX9_has_3 (by decide) ?_
  refine r_iand (pc := 4) C dX9_has_4 ?_
  refine r_iconst (pc := 5) C (1) dX9_has_5 (by decide) ?_
  refine r_icmp_ne (pc := 6) C 13 dX9_has_6 (by decide) (fun c6 => ?_) (fun c6 => ?_)
  · refine r_iconst (pc := 13) C (0) dX9_has_13 (by decide) ?_
    refine q_zret (pc := 14) C dX9_has_14 rfl (Or.inl rfl) ?_
    refine ⟨?_, rfl⟩
    simp [hasB, b1, c6]
  · refine r_iconst (pc := 9) C (1) dX9_has_9 (by decide) ?_
    refine r_goto (pc := 10) C 14 dX9_has_10 (by decide) ?_
    refine q_zret (pc := 14) C dX9_has_14 rfl (Or.inr rfl) ?_
    refine ⟨?_, rfl⟩
    simp [hasB, b1, c6]
set_option maxRecDepth 100000 in
set_option maxHeartbeats 4000000 in
theorem c_X9_fault {G : GG} {kn : Nat} {f : MM}  : CI G mX9_fault 1 kn [.ref (G.1 + 85)] f (f 85 9) f := by
  refine Ct.of [some (.ref (G.1 + 85))] rfl (by decide +kernel) rfl (Nat.le_of_ble_eq_true rfl) rfl ?_
  intro X C
  refine r_aload_n (pc := 0) C dX9_fault_0 rfl ?_
  refine r_get (pc := 1) C fX9_150 dX9_fault_1 (s_85 _) rfl ?_
  refine q_iret (pc := 4) C dX9_fault_4 rfl ?_
  exact ⟨rfl, rfl⟩
set_option maxRecDepth 100000 in
set_option maxHeartbeats 4000000 in
theorem c_X9_status {G : GG} {kn : Nat} {f : MM}  : CI G mX9_status 1 kn [.ref (G.1 + 85)] f (f 85 3) f := by
  refine Ct.of [some (.ref (G.1 + 85))] rfl (by decide +kernel) rfl (Nat.le_of_ble_eq_true rfl) rfl ?_
  intro X C
  refine r_aload_n (pc := 0) C dX9_status_0 rfl ?_
  refine r_get (pc := 1) C fX9_59 dX9_status_1 (s_85 _) rfl ?_
  refine q_iret (pc := 4) C dX9_status_4 rfl ?_
  exact ⟨rfl, rfl⟩
def cntS (f : MM) : Nat → Int32
  | 0 => 0
  | n + 1 => cntS f n + (if 0 ≤ f 87 n then 1 else 0)
def R_count (f : MM) (w : Int32) : Int32 :=
  if w = 0 then cntS f 8 else if w = 1 then f 89 8 else if w = 2 then f 89 13 else if w = 3 then f 89 9 else if w = 4 then f 89 10 else if w = 5 then f 89 11 else if w = 6 then f 89 12 else if w = 7 then f 85 18 else if w = 8 then f 85 8 else -1000001
set_option maxRecDepth 100000 in
set_option maxHeartbeats 4000000 in
theorem l_X9_count {X : XT} {G : GG} {kn : Nat} {Q : State → Prop} {f : MM} {a : Int32} (C : Cx X G mX9_count 1 0 0 (NN kn))  (K : ∀ g : MM, (fun _ g => g = f) 8 g → Vw X G mX9_count.2.2.2.1 0 0 Q (NN kn) (shF kn) g 33 [some (.ref (G.1 + 85)), some (.int a), some (.int (cntS f 8)), some (.int (nI 8))] []) : ∀ (m i : Nat) (g : MM), i + m = 8 → (fun _ g => g = f) i g → Vw X G mX9_count.2.2.2.1 0 0 Q (NN kn) (shF kn) g 4 [some (.ref (G.1 + 85)), some (.int a), some (.int (cntS f i)), some (.int (nI i))] [] := by
  intro m
  induction m with
  | zero =>
    intro i g hm hg
    obtain rfl : 8 = i := by omega
    subst hg
    refine r_iload_n (pc := 4) C dX9_count_4 rfl ?_
    refine r_bipush (pc := 5) C (8) dX9_count_5 (by decide) ?_
    refine q_ge (pc := 7) C 8 8 33 rfl rfl (by omega) (by omega) dX9_count_7 (by decide) (fun c7 => ?_) (fun c7 => ?_)
    · exact K _ rfl
    · exact absurd c7 (by omega)
  | succ m ih =>
    intro i g hm hg
    subst hg
    refine r_iload_n (pc := 4) C dX9_count_4 rfl ?_
    refine r_bipush (pc := 5) C (8) dX9_count_5 (by decide) ?_
    refine q_ge (pc := 7) C i 8 33 rfl rfl (by omega) (by omega) dX9_count_7 (by decide) (fun c7 => ?_) (fun c7 => ?_)
    · exact absurd c7 (by omega)
    · refine r_iload_n (pc := 10) C dX9_count_10 rfl ?_
      refine r_aload_n (pc := 11) C dX9_count_11 rfl ?_
      refine r_getr (pc := 12) C fX9_13 dX9_count_12 (s_85 _) rfl rfl ?_
      refine r_iload_n (pc := 15) C dX9_count_15 rfl ?_
      refine q_iald (pc := 16) C i dX9_count_16 (s_87 _) (sn_87 _) rfl (by omega) (by decide) ?_
      refine r_if_lt (pc := 17) C 24 dX9_count_17 (by decide) (fun c17 => ?_) (fun c17 => ?_)
      · refine r_iconst (pc := 24) C (0) dX9_count_24 (by decide) ?_
        refine r_iadd (pc := 25) C dX9_count_25 ?_
        refine r_istore_n (pc := 26) C dX9_count_26 (by decide) rfl ?_
        refine r_iinc (pc := 27) C (nI (i + 1)) dX9_count_27 rfl (nI_inc _) (by decide) rfl ?_
        refine r_goto (pc := 30) C 4 dX9_count_30 (by decide) ?_
        have e : cntS g (i + 1) = cntS g i + (if 0 ≤ g 87 i then 1 else 0) := rfl
        have h := ih (i + 1) g (by omega) rfl
        rw [e] at h
        first | (rw [if_pos c17] at h; exact h) | (rw [if_neg (fun q => absurd c17 (Int32.not_lt.mpr q))] at h; exact h) | (rw [if_pos (Int32.not_lt.mp c17)] at h; exact h)
      · refine r_iconst (pc := 20) C (1) dX9_count_20 (by decide) ?_
        refine r_goto (pc := 21) C 25 dX9_count_21 (by decide) ?_
        refine r_iadd (pc := 25) C dX9_count_25 ?_
        refine r_istore_n (pc := 26) C dX9_count_26 (by decide) rfl ?_
        refine r_iinc (pc := 27) C (nI (i + 1)) dX9_count_27 rfl (nI_inc _) (by decide) rfl ?_
        refine r_goto (pc := 30) C 4 dX9_count_30 (by decide) ?_
        have e : cntS g (i + 1) = cntS g i + (if 0 ≤ g 87 i then 1 else 0) := rfl
        have h := ih (i + 1) g (by omega) rfl
        rw [e] at h
        first | (rw [if_pos c17] at h; exact h) | (rw [if_neg (fun q => absurd c17 (Int32.not_lt.mpr q))] at h; exact h) | (rw [if_pos (Int32.not_lt.mp c17)] at h; exact h)
theorem tsne {x v : Int32} {lo hi : Int} (h : x.toInt < lo ∨ hi < x.toInt) (hv : lo ≤ v.toInt ∧ v.toInt ≤ hi) : ¬ x = v := fun e => by subst e; omega
theorem cnt_out {f : MM} {x : Int32} (h : x.toInt < 0 ∨ 8 < x.toInt) : R_count f x = -1000001 := by
  unfold R_count
  rw [if_neg (tsne h (by decide)), if_neg (tsne h (by decide)), if_neg (tsne h (by decide)), if_neg (tsne h (by decide)), if_neg (tsne h (by decide)), if_neg (tsne h (by decide)), if_neg (tsne h (by decide)), if_neg (tsne h (by decide)), if_neg (tsne h (by decide))]
set_option maxRecDepth 100000 in
set_option maxHeartbeats 4000000 in
theorem c_X9_count {G : GG} {kn : Nat} {f : MM} {a : Int32} : CI G mX9_count 1 kn [.ref (G.1 + 85), .int a] f (R_count f a) f := by
  refine Ct.of [some (.ref (G.1 + 85)), some (.int a), none, none] rfl (by decide +kernel) rfl (Nat.le_of_ble_eq_true rfl) rfl ?_
  intro X C
  refine r_iconst (pc := 0) C (0) dX9_count_0 (by decide) ?_
  refine r_istore_n (pc := 1) C dX9_count_1 (by decide) rfl ?_
  refine r_iconst (pc := 2) C (0) dX9_count_2 (by decide) ?_
  refine r_istore_n (pc := 3) C dX9_count_3 (by decide) rfl ?_
  refine l_X9_count C ?_ 8 0 _ rfl rfl
  intro g hg
  subst hg
  refine r_iload_n (pc := 33) C dX9_count_33 rfl ?_
  refine r_top (fun x34 hx34 => ?_)
  rcases ts0_8 x34 with c34 | c34 | c34 | c34 | c34 | c34 | c34 | c34 | c34 | c34
  · refine r_tableOut (pc := 34) C 144 dX9_count_34 c34 (by decide) ?_
    refine r_ldc (pc := 144) C (-1000001) kX9_76 dX9_count_144 ?_
    refine q_iret (pc := 146) C dX9_count_146 rfl ?_
    refine ⟨?_, rfl⟩
    subst hx34
    first | exact (cnt_out c34).symm | (subst c34; simp [R_count]; done)
  · refine r_tableEq (pc := 34) C 84 (0) c34 dX9_count_34 (by decide) (by decide) rfl (by decide) ?_
    refine r_iload_n (pc := 84) C dX9_count_84 rfl ?_
    refine q_iret (pc := 85) C dX9_count_85 rfl ?_
    refine ⟨?_, rfl⟩
    subst hx34
    first | exact (cnt_out c34).symm | (subst c34; simp [R_count]; done)
  · refine r_tableEq (pc := 34) C 86 (1) c34 dX9_count_34 (by decide) (by decide) rfl (by decide) ?_
    refine r_aload_n (pc := 86) C dX9_count_86 rfl ?_
    refine r_getr (pc := 87) C fX9_19 dX9_count_87 (s_85 _) rfl rfl ?_
    refine r_bipush (pc := 90) C (8) dX9_count_90 (by decide) ?_
    refine q_iald (pc := 92) C 8 dX9_count_92 (s_89 _) (sn_89 _) rfl (by omega) (by decide) ?_
    refine q_iret (pc := 93) C dX9_count_93 rfl ?_
    refine ⟨?_, rfl⟩
    subst hx34
    first | exact (cnt_out c34).symm | (subst c34; simp [R_count]; done)
  · refine r_tableEq (pc := 34) C 94 (2) c34 dX9_count_34 (by decide) (by decide) rfl (by decide) ?_
    refine r_aload_n (pc := 94) C dX9_count_94 rfl ?_
    refine r_getr (pc := 95) C fX9_19 dX9_count_95 (s_85 _) rfl rfl ?_
    refine r_bipush (pc := 98) C (13) dX9_count_98 (by decide) ?_
    refine q_iald (pc := 100) C 13 dX9_count_100 (s_89 _) (sn_89 _) rfl (by omega) (by decide) ?_
    refine q_iret (pc := 101) C dX9_count_101 rfl ?_
    refine ⟨?_, rfl⟩
    subst hx34
    first | exact (cnt_out c34).symm | (subst c34; simp [R_count]; done)
  · refine r_tableEq (pc := 34) C 102 (3) c34 dX9_count_34 (by decide) (by decide) rfl (by decide) ?_
    refine r_aload_n (pc := 102) C dX9_count_102 rfl ?_
    refine r_getr (pc := 103) C fX9_19 dX9_count_103 (s_85 _) rfl rfl ?_
    refine r_bipush (pc := 106) C (9) dX9_count_106 (by decide) ?_
    refine q_iald (pc := 108) C 9 dX9_count_108 (s_89 _) (sn_89 _) rfl (by omega) (by decide) ?_
    refine q_iret (pc := 109) C dX9_count_109 rfl ?_
    refine ⟨?_, rfl⟩
    subst hx34
    first | exact (cnt_out c34).symm | (subst c34; simp [R_count]; done)
  · refine r_tableEq (pc := 34) C 110 (4) c34 dX9_count_34 (by decide) (by decide) rfl (by decide) ?_
    refine r_aload_n (pc := 110) C dX9_count_110 rfl ?_
    refine r_getr (pc := 111) C fX9_19 dX9_count_111 (s_85 _) rfl rfl ?_
    refine r_bipush (pc := 114) C (10) dX9_count_114 (by decide) ?_
    refine q_iald (pc := 116) C 10 dX9_count_116 (s_89 _) (sn_89 _) rfl (by omega) (by decide) ?_
    refine q_iret (pc := 117) C dX9_count_117 rfl ?_
    refine ⟨?_, rfl⟩
    subst hx34
    first | exact (cnt_out c34).symm | (subst c34; simp [R_count]; done)
  · refine r_tableEq (pc := 34) C 118 (5) c34 dX9_count_34 (by decide) (by decide) rfl (by decide) ?_
    refine r_aload_n (pc := 118) C dX9_count_118 rfl ?_
    refine r_getr (pc := 119) C fX9_19 dX9_count_119 (s_85 _) rfl rfl ?_
    refine r_bipush (pc := 122) C (11) dX9_count_122 (by decide) ?_
    refine q_iald (pc := 124) C 11 dX9_count_124 (s_89 _) (sn_89 _) rfl (by omega) (by decide) ?_
    refine q_iret (pc := 125) C dX9_count_125 rfl ?_
    refine ⟨?_, rfl⟩
    subst hx34
    first | exact (cnt_out c34).symm | (subst c34; simp [R_count]; done)
  · refine r_tableEq (pc := 34) C 126 (6) c34 dX9_count_34 (by decide) (by decide) rfl (by decide) ?_
    refine r_aload_n (pc := 126) C dX9_count_126 rfl ?_
    refine r_getr (pc := 127) C fX9_19 dX9_count_127 (s_85 _) rfl rfl ?_
    refine r_bipush (pc := 130) C (12) dX9_count_130 (by decide) ?_
    refine q_iald (pc := 132) C 12 dX9_count_132 (s_89 _) (sn_89 _) rfl (by omega) (by decide) ?_
    refine q_iret (pc := 133) C dX9_count_133 rfl ?_
    refine ⟨?_, rfl⟩
    subst hx34
    first | exact (cnt_out c34).symm | (subst c34; simp [R_count]; done)
  · refine r_tableEq (pc := 34) C 134 (7) c34 dX9_count_34 (by decide) (by decide) rfl (by decide) ?_
    refine r_aload_n (pc := 134) C dX9_count_134 rfl ?_
    refine r_get (pc := 135) C fX9_158 dX9_count_135 (s_85 _) rfl ?_
    refine q_iret (pc := 138) C dX9_count_138 rfl ?_
    refine ⟨?_, rfl⟩
    subst hx34
    first | exact (cnt_out c34).symm | (subst c34; simp [R_count]; done)
  · refine r_tableEq (pc := 34) C 139 (8) c34 dX9_count_34 (by decide) (by decide) rfl (by decide) ?_
    refine r_aload_n (pc := 139) C dX9_count_139 rfl ?_
    refine r_get (pc := 140) C fX9_90 dX9_count_140 (s_85 _) rfl ?_
    refine q_iret (pc := 143) C dX9_count_143 rfl ?_
    refine ⟨?_, rfl⟩
    subst hx34
    first | exact (cnt_out c34).symm | (subst c34; simp [R_count]; done)
