/-! THE REFERENCE: copy -/
def hold (i n : Int32) (s : Nat) : Bool := decide (0 ≤ i.toInt ∧ 0 ≤ n.toInt ∧ i.toInt + n.toInt ≤ s)
theorem hold_of {i n : Int32} {s : Nat} (h : hold i n s = true) : ∃ p m : Nat, p + m ≤ s ∧ i = nI p ∧ n = nI m := by
  have h1 := of_decide_eq_true h
  refine ⟨tn i, tn n, ?_, nI_nat (by rw [Int32.le_iff_toInt_le]; simp; exact h1.1), nI_nat (by rw [Int32.le_iff_toInt_le]; simp; exact h1.2.1)⟩
  show i.toInt.toNat + n.toInt.toNat ≤ s
  omega
theorem i64sub {s : Nat} {n : Int32} (hs : s ≤ 100000) (hn : 0 ≤ n.toInt) : ((nI s).toInt64 - n.toInt64).toInt = (s : Int) - n.toInt := by
  have h1 : (nI s).toInt64.toInt = s := by rw [Int32.toInt_toInt64, nI_toInt (by omega)]
  have h2 : n.toInt64.toInt = n.toInt := Int32.toInt_toInt64 n
  have h3 : n.toInt ≤ 2147483647 := by have := n.toInt_lt; omega
  rw [Int64.toInt_sub, h1, h2]
  exact Int.bmod_eq_of_le (by omega) (by omega)
theorem c_inCp {G : GG} {kn : Nat} {f : MM} {i n z : Int32} {b c : Int64} (s : Nat) (hs : s ≤ 100000) (hz : z = nI s) (hn : ¬ n < 0) (hb : b = 0) (hc : c = z.toInt64 - n.toInt64) : CI G mX9_in 1 kn [.long i.toInt64, .long b, .long c] f (b1 (hold i n s)) f := by
  subst hb; subst hc; subst hz
  have hn' : 0 ≤ n.toInt := by have := Int32.le_iff_toInt_le.mp (Int32.not_lt.mp hn); simpa using this
  have e : hold i n s = decide ((0 : Int64) ≤ i.toInt64 ∧ i.toInt64 ≤ (nI s).toInt64 - n.toInt64) := decide_eq_decide.mpr (by
    rw [Int64.le_iff_toInt_le, Int64.le_iff_toInt_le, i64sub hs hn', Int32.toInt_toInt64]
    simp; omega)
  rw [e]
  exact c_X9_in64
theorem hold_neg {i n : Int32} {s : Nat} (h : n < 0) : hold i n s = false := by
  have : n.toInt < 0 := by have := Int32.lt_iff_toInt_lt.mp h; simpa using this
  unfold hold
  simp; omega
/-- a stretch of i places of the cell c, from a on, holds s -/
def fillM (g0 : MM) (c a i : Nat) (s : Nat → Int32) : MM := fun k b => if k = c ∧ a ≤ b ∧ b < a + i then s (b - a) else g0 k b
theorem fillM_0 {g0 : MM} {c a : Nat} {s : Nat → Int32} : fillM g0 c a 0 s = g0 := by
  funext k b
  unfold fillM
  rw [if_neg (by omega)]
theorem fillM_ne {g0 : MM} {c a i k b : Nat} {s : Nat → Int32} (h : k ≠ c) : fillM g0 c a i s k b = g0 k b := if_neg (fun q => h q.1)
theorem fillM_in {g0 : MM} {c a i b : Nat} {s : Nat → Int32} (h : a ≤ b) (h2 : b < a + i) : fillM g0 c a i s c b = s (b - a) := if_pos ⟨rfl, h, h2⟩
theorem fillM_out {g0 : MM} {c a i b : Nat} {s : Nat → Int32} (h : b < a ∨ a + i ≤ b) : fillM g0 c a i s c b = g0 c b := if_neg (fun q => by omega)
theorem fillM_step {g0 : MM} {c a i : Nat} {s : Nat → Int32} {v : Int32} (hv : v = s i) : u2 (fillM g0 c a i s) c (a + i) v = fillM g0 c a (i + 1) s := by
  subst hv
  funext k b
  simp only [u2, fillM]
  by_cases hk : k = c
  · by_cases hb : b = a + i
    · subst hb
      rw [if_pos ⟨hk, rfl⟩, if_pos ⟨hk, by omega, by omega⟩, Nat.add_sub_cancel_left]
    · rw [if_neg (fun q => hb q.2)]
      by_cases h1 : k = c ∧ a ≤ b ∧ b < a + i
      · rw [if_pos h1, if_pos ⟨hk, h1.2.1, by omega⟩]
      · rw [if_neg h1, if_neg (fun q => h1 ⟨hk, q.2.1, by omega⟩)]
  · rw [if_neg (fun q => hk q.1), if_neg (fun q => hk q.1), if_neg (fun q => hk q.1)]
theorem fillM_step0 {g0 : MM} {c i : Nat} {s : Nat → Int32} {v : Int32} (hv : v = s i) : u2 (fillM g0 c 0 i s) c i v = fillM g0 c 0 (i + 1) s := by
  have := fillM_step (g0 := g0) (c := c) (a := 0) hv
  rwa [Nat.zero_add] at this
def R_copyF (f : MM) (a i b j n : Nat) : MM := u2 (fillM (fillM f 90 0 n (fun t => f 88 (40 * a + i + t))) 88 (40 * b + j) n (fun t => f 88 (40 * a + i + t))) 85 3 0
def R_copy (f : MM) (a i b j n : Int32) : Int32 × MM :=
  if inR a 8 = true then if inR b 8 = true then if 0 ≤ f 87 (tn a) then if 0 ≤ f 87 (tn b) then if f 86 (tn a) = f 86 (tn b) then if hold i n (tn (f 87 (tn a))) = true then if hold j n (tn (f 87 (tn b))) = true then (n, R_copyF f (tn a) (tn i) (tn b) (tn j) (tn n)) else (-1000012, u2 f 85 3 2) else (-1000012, u2 f 85 3 2) else (-1000015, u2 f 85 3 5) else (-1000011, u2 f 85 3 1) else (-1000011, u2 f 85 3 1) else (-1000001, f) else (-1000001, f)
set_option maxRecDepth 100000 in
set_option maxHeartbeats 4000000 in
theorem l_X9_copy1 {X : XT} {G : GG} {kn : Nat} {Q : State → Prop} {f : MM} {a i0 b j n : Nat} (C : Cx X G mX9_copy 3 0 0 (NN kn)) (ha : a < 8) (hi : i0 + n ≤ 40) (K : ∀ g : MM, (fun i g => g = fillM f 90 0 i (fun t => f 88 (40 * a + i0 + t))) n g → Vw X G mX9_copy.2.2.2.1 0 0 Q (NN kn) (shF kn) g 151 [some (.ref (G.1 + 85)), some (.int (nI a)), some (.int (nI i0)), some (.int (nI b)), some (.int (nI j)), some (.int (nI n)), some (.int (nI n))] []) : ∀ (m i : Nat) (g : MM), i + m = n → (fun i g => g = fillM f 90 0 i (fun t => f 88 (40 * a + i0 + t))) i g → Vw X G mX9_copy.2.2.2.1 0 0 Q (NN kn) (shF kn) g 117 [some (.ref (G.1 + 85)), some (.int (nI a)), some (.int (nI i0)), some (.int (nI b)), some (.int (nI j)), some (.int (nI n)), some (.int (nI i))] [] := by
  intro m
  induction m with
  | zero =>
    intro i g hm hg
    obtain rfl : n = i := by omega
    subst hg
    refine r_iload (pc := 117) C dX9_copy_117 rfl ?_
    refine r_iload (pc := 119) C dX9_copy_119 rfl ?_
    refine q_ge (pc := 121) C n n 151 rfl rfl (by omega) (by omega) dX9_copy_121 (by decide) (fun c121 => ?_) (fun c121 => ?_)
    · exact K _ rfl
    · exact absurd c121 (by omega)
  | succ m ih =>
    intro i g hm hg
    subst hg
    refine r_iload (pc := 117) C dX9_copy_117 rfl ?_
    refine r_iload (pc := 119) C dX9_copy_119 rfl ?_
    refine q_ge (pc := 121) C i n 151 rfl rfl (by omega) (by omega) dX9_copy_121 (by decide) (fun c121 => ?_) (fun c121 => ?_)
    · exact absurd c121 (by omega)
    · refine r_aload_n (pc := 124) C dX9_copy_124 rfl ?_
      refine r_getr (pc := 125) C fX9_22 dX9_copy_125 (s_85 _) rfl rfl ?_
      refine r_iload (pc := 128) C dX9_copy_128 rfl ?_
      refine r_aload_n (pc := 130) C dX9_copy_130 rfl ?_
      refine r_getr (pc := 131) C fX9_16 dX9_copy_131 (s_85 _) rfl rfl ?_
      refine r_bipush (pc := 134) C (40) dX9_copy_134 (by decide) ?_
      refine r_iload_n (pc := 136) C dX9_copy_136 rfl ?_
      refine r_imul (pc := 137) C dX9_copy_137 ?_
      refine r_iload_n (pc := 138) C dX9_copy_138 rfl ?_
      refine r_iadd (pc := 139) C dX9_copy_139 ?_
      refine r_iload (pc := 140) C dX9_copy_140 rfl ?_
      refine r_iadd (pc := 142) C dX9_copy_142 ?_
      refine q_iald (pc := 143) C (((40 * a) + i0) + i) dX9_copy_143 (s_88 _) (sn_88 _) (nI_addE (nI_addE (pk_mul 40 a) rfl) rfl) (by omega) (by decide) ?_
      refine q_iast (pc := 144) C i dX9_copy_144 (s_90 _) (sn_90 _) rfl (by omega) (by decide) ?_
      refine r_iinc (pc := 145) C (nI (i + 1)) dX9_copy_145 rfl (nI_inc _) (by decide) rfl ?_
      refine r_goto (pc := 148) C 117 dX9_copy_148 (by decide) ?_
      refine ih (i + 1) _ (by omega) ?_
      exact fillM_step0 (fillM_ne (by decide))
set_option maxRecDepth 100000 in
set_option maxHeartbeats 4000000 in
theorem l_X9_copy2 {X : XT} {G : GG} {kn : Nat} {Q : State → Prop} {f : MM} {a i0 b j n : Nat} (C : Cx X G mX9_copy 3 0 0 (NN kn)) (hb : b < 8) (hj : j + n ≤ 40) (K : ∀ g : MM, (fun i g => g = fillM (fillM f 90 0 n (fun t => f 88 (40 * a + i0 + t))) 88 (40 * b + j) i (fun t => f 88 (40 * a + i0 + t))) n g → Vw X G mX9_copy.2.2.2.1 0 0 Q (NN kn) (shF kn) g 189 [some (.ref (G.1 + 85)), some (.int (nI a)), some (.int (nI i0)), some (.int (nI b)), some (.int (nI j)), some (.int (nI n)), some (.int (nI n))] []) : ∀ (m i : Nat) (g : MM), i + m = n → (fun i g => g = fillM (fillM f 90 0 n (fun t => f 88 (40 * a + i0 + t))) 88 (40 * b + j) i (fun t => f 88 (40 * a + i0 + t))) i g → Vw X G mX9_copy.2.2.2.1 0 0 Q (NN kn) (shF kn) g 154 [some (.ref (G.1 + 85)), some (.int (nI a)), some (.int (nI i0)), some (.int (nI b)), some (.int (nI j)), some (.int (nI n)), some (.int (nI i))] [] := by
  intro m
  induction m with
  | zero =>
    intro i g hm hg
    obtain rfl : n = i := by omega
    subst hg
    refine r_iload (pc := 154) C dX9_copy_154 rfl ?_
    refine r_iload (pc := 156) C dX9_copy_156 rfl ?_
    refine q_ge (pc := 158) C n n 189 rfl rfl (by omega) (by omega) dX9_copy_158 (by decide) (fun c158 => ?_) (fun c158 => ?_)
    · exact K _ rfl
    · exact absurd c158 (by omega)
  | succ m ih =>
    intro i g hm hg
    subst hg
    refine r_iload (pc := 154) C dX9_copy_154 rfl ?_
    refine r_iload (pc := 156) C dX9_copy_156 rfl ?_
    refine q_ge (pc := 158) C i n 189 rfl rfl (by omega) (by omega) dX9_copy_158 (by decide) (fun c158 => ?_) (fun c158 => ?_)
    · exact absurd c158 (by omega)
    · refine r_aload_n (pc := 161) C dX9_copy_161 rfl ?_
      refine r_getr (pc := 162) C fX9_16 dX9_copy_162 (s_85 _) rfl rfl ?_
      refine r_bipush (pc := 165) C (40) dX9_copy_165 (by decide) ?_
      refine r_iload_n (pc := 167) C dX9_copy_167 rfl ?_
      refine r_imul (pc := 168) C dX9_copy_168 ?_
      refine r_iload (pc := 169) C dX9_copy_169 rfl ?_
      refine r_iadd (pc := 171) C dX9_copy_171 ?_
      refine r_iload (pc := 172) C dX9_copy_172 rfl ?_
      refine r_iadd (pc := 174) C dX9_copy_174 ?_
      refine r_aload_n (pc := 175) C dX9_copy_175 rfl ?_
      refine r_getr (pc := 176) C fX9_22 dX9_copy_176 (s_85 _) rfl rfl ?_
      refine r_iload (pc := 179) C dX9_copy_179 rfl ?_
      refine q_iald (pc := 181) C i dX9_copy_181 (s_90 _) (sn_90 _) rfl (by omega) (by decide) ?_
      refine q_iast (pc := 182) C (((40 * b) + j) + i) dX9_copy_182 (s_88 _) (sn_88 _) (nI_addE (nI_addE (pk_mul 40 b) rfl) rfl) (by omega) (by decide) ?_
      refine r_iinc (pc := 183) C (nI (i + 1)) dX9_copy_183 rfl (nI_inc _) (by decide) rfl ?_
      refine r_goto (pc := 186) C 154 dX9_copy_186 (by decide) ?_
      refine ih (i + 1) _ (by omega) ?_
      exact fillM_step ((fillM_ne (by decide)).trans (fillM_in (by omega) (by omega)))
set_option maxRecDepth 100000 in
set_option maxHeartbeats 4000000 in
theorem c_X9_copy {G : GG} {kn : Nat} {f : MM} (hsz : szOK f) {a i b j n : Int32} : CI G mX9_copy 3 kn [.ref (G.1 + 85), .int a, .int i, .int b, .int j, .int n] f (R_copy f a i b j n).1 (R_copy f a i b j n).2 := by
  refine Ct.of [some (.ref (G.1 + 85)), some (.int a), some (.int i), some (.int b), some (.int j), some (.int n), none] rfl (by decide +kernel) rfl (Nat.le_of_ble_eq_true rfl) rfl ?_
  intro X C
  refine r_iload_n (pc := 0) C dX9_copy_0 rfl ?_
  refine q_sIf (pc := 1) C kX9_70 dX9_copy_1 (c_X9_isRow) rfl rfl (Nat.le_of_ble_eq_true rfl) (by decide) ⟨by decide, by decide⟩ ?_
  refine r_if_eq (pc := 4) C 14 dX9_copy_4 (by decide) (fun c4 => ?_) (fun c4 => ?_)
  · replace c4 := b1_0 c4
    refine r_ldc (pc := 14) C (-1000001) kX9_76 dX9_copy_14 ?_
    refine q_iret (pc := 16) C dX9_copy_16 rfl ?_
    exact pr (by simp [R_copy, c4])
  · replace c4 := b1_1 c4
    obtain ⟨a0, ha0, rfl⟩ := inR_of c4
    have ta : tn (nI a0) = a0 := tn_nI (by omega)
    refine r_iload_n (pc := 7) C dX9_copy_7 rfl ?_
    refine q_sIf (pc := 8) C kX9_70 dX9_copy_8 (c_X9_isRow) rfl rfl (Nat.le_of_ble_eq_true rfl) (by decide) ⟨by decide, by decide⟩ ?_
    refine r_if_ne (pc := 11) C 17 dX9_copy_11 (by decide) (fun c11 => ?_) (fun c11 => ?_)
    · replace c11 := b1_1 c11
      obtain ⟨b0, hb0, rfl⟩ := inR_of c11
      have tb : tn (nI b0) = b0 := tn_nI (by omega)
      refine r_aload_n (pc := 17) C dX9_copy_17 rfl ?_
      refine r_getr (pc := 18) C fX9_13 dX9_copy_18 (s_85 _) rfl rfl ?_
      refine r_iload_n (pc := 21) C dX9_copy_21 rfl ?_
      refine q_iald (pc := 22) C a0 dX9_copy_22 (s_87 _) (sn_87 _) rfl (by omega) (by decide) ?_
      refine r_if_lt (pc := 23) C 35 dX9_copy_23 (by decide) (fun c23 => ?_) (fun c23 => ?_)
      · have e23 := Int32.not_le.mpr c23
        refine r_aload_n (pc := 35) C dX9_copy_35 rfl ?_
        refine r_iconst (pc := 36) C (1) dX9_copy_36 (by decide) ?_
        refine q_vIf (pc := 37) C kX9_77 dX9_copy_37 (c_X9_find) (s_85 _) rfl rfl (Nat.le_of_ble_eq_true rfl) (by decide) ⟨by decide, by decide⟩ ?_
        refine q_iret (pc := 40) C dX9_copy_40 rfl ?_
        exact pr (by simp [R_copy, c4, ta, c11, tb, e23])
      · have e23 := Int32.not_lt.mp c23
        obtain ⟨sa, hsa, ea⟩ := hsz.of ha0 e23
        have tsa : tn (f 87 a0) = sa := by rw [ea, tn_nI (by omega)]
        refine r_aload_n (pc := 26) C dX9_copy_26 rfl ?_
        refine r_getr (pc := 27) C fX9_13 dX9_copy_27 (s_85 _) rfl rfl ?_
        refine r_iload_n (pc := 30) C dX9_copy_30 rfl ?_
        refine q_iald (pc := 31) C b0 dX9_copy_31 (s_87 _) (sn_87 _) rfl (by omega) (by decide) ?_
        refine r_if_ge (pc := 32) C 41 dX9_copy_32 (by decide) (fun c32 => ?_) (fun c32 => ?_)
        · obtain ⟨sb, hsb, eb⟩ := hsz.of hb0 c32
          have tsb : tn (f 87 b0) = sb := by rw [eb, tn_nI (by omega)]
          refine r_aload_n (pc := 41) C dX9_copy_41 rfl ?_
          refine r_getr (pc := 42) C fX9_7 dX9_copy_42 (s_85 _) rfl rfl ?_
          refine r_iload_n (pc := 45) C dX9_copy_45 rfl ?_
          refine q_iald (pc := 46) C a0 dX9_copy_46 (s_86 _) (sn_86 _) rfl (by omega) (by decide) ?_
          refine r_aload_n (pc := 47) C dX9_copy_47 rfl ?_
          refine r_getr (pc := 48) C fX9_7 dX9_copy_48 (s_85 _) rfl rfl ?_
          refine r_iload_n (pc := 51) C dX9_copy_51 rfl ?_
          refine q_iald (pc := 52) C b0 dX9_copy_52 (s_86 _) (sn_86 _) rfl (by omega) (by decide) ?_
          refine r_icmp_eq (pc := 53) C 62 dX9_copy_53 (by decide) (fun c53 => ?_) (fun c53 => ?_)
          · refine r_iload (pc := 62) C dX9_copy_62 rfl ?_
            refine r_if_lt (pc := 64) C 108 dX9_copy_64 (by decide) (fun c64 => ?_) (fun c64 => ?_)
            · have e64 := hold_neg (i := i) (s := sa) c64
              refine r_aload_n (pc := 108) C dX9_copy_108 rfl ?_
              refine r_iconst (pc := 109) C (2) dX9_copy_109 (by decide) ?_
              refine q_vIf (pc := 110) C kX9_77 dX9_copy_110 (c_X9_find) (s_85 _) rfl rfl (Nat.le_of_ble_eq_true rfl) (by decide) ⟨by decide, by decide⟩ ?_
              refine q_iret (pc := 113) C dX9_copy_113 rfl ?_
              exact pr (by simp [R_copy, c4, ta, c11, tb, e23, tsa, c32, tsb, c53, e64])
            · refine r_iload_n (pc := 67) C dX9_copy_67 rfl ?_
              refine r_i2l (pc := 68) C dX9_copy_68 ?_
              refine r_lconst (pc := 69) C (0) dX9_copy_69 (by decide) ?_
              refine r_aload_n (pc := 70) C dX9_copy_70 rfl ?_
              refine r_getr (pc := 71) C fX9_13 dX9_copy_71 (s_85 _) rfl rfl ?_
              refine r_iload_n (pc := 74) C dX9_copy_74 rfl ?_
              refine q_iald (pc := 75) C a0 dX9_copy_75 (s_87 _) (sn_87 _) rfl (by omega) (by decide) ?_
              refine r_i2l (pc := 76) C dX9_copy_76 ?_
              refine r_iload (pc := 77) C dX9_copy_77 rfl ?_
              refine r_i2l (pc := 79) C dX9_copy_79 ?_
              refine r_lsub (pc := 80) C dX9_copy_80 ?_
              refine q_sIf (pc := 81) C kX9_66 dX9_copy_81 (c_inCp sa (by omega) ea c64 rfl rfl) rfl rfl (Nat.le_of_ble_eq_true rfl) (by decide) ⟨by decide, by decide⟩ ?_
              refine r_if_eq (pc := 84) C 108 dX9_copy_84 (by decide) (fun c84 => ?_) (fun c84 => ?_)
              · replace c84 := b1_0 c84
                refine r_aload_n (pc := 108) C dX9_copy_108 rfl ?_
                refine r_iconst (pc := 109) C (2) dX9_copy_109 (by decide) ?_
                refine q_vIf (pc := 110) C kX9_77 dX9_copy_110 (c_X9_find) (s_85 _) rfl rfl (Nat.le_of_ble_eq_true rfl) (by decide) ⟨by decide, by decide⟩ ?_
                refine q_iret (pc := 113) C dX9_copy_113 rfl ?_
                exact pr (by simp [R_copy, c4, ta, c11, tb, e23, tsa, c32, tsb, c53, c84])
              · replace c84 := b1_1 c84
                refine r_iload (pc := 87) C dX9_copy_87 rfl ?_
                refine r_i2l (pc := 89) C dX9_copy_89 ?_
                refine r_lconst (pc := 90) C (0) dX9_copy_90 (by decide) ?_
                refine r_aload_n (pc := 91) C dX9_copy_91 rfl ?_
                refine r_getr (pc := 92) C fX9_13 dX9_copy_92 (s_85 _) rfl rfl ?_
                refine r_iload_n (pc := 95) C dX9_copy_95 rfl ?_
                refine q_iald (pc := 96) C b0 dX9_copy_96 (s_87 _) (sn_87 _) rfl (by omega) (by decide) ?_
                refine r_i2l (pc := 97) C dX9_copy_97 ?_
                refine r_iload (pc := 98) C dX9_copy_98 rfl ?_
                refine r_i2l (pc := 100) C dX9_copy_100 ?_
                refine r_lsub (pc := 101) C dX9_copy_101 ?_
                refine q_sIf (pc := 102) C kX9_66 dX9_copy_102 (c_inCp sb (by omega) eb c64 rfl rfl) rfl rfl (Nat.le_of_ble_eq_true rfl) (by decide) ⟨by decide, by decide⟩ ?_
                refine r_if_ne (pc := 105) C 114 dX9_copy_105 (by decide) (fun c105 => ?_) (fun c105 => ?_)
                · replace c105 := b1_1 c105
                  obtain ⟨i1, n1, hin, rfl, rfl⟩ := hold_of c84
                  obtain ⟨j1, n2, hjn, rfl, en⟩ := hold_of c105
                  have en12 : n2 = n1 := ((nI_eq (by omega) (by omega)).mp en).symm
                  subst en12
                  refine r_iconst (pc := 114) C (0) dX9_copy_114 (by decide) ?_
                  refine r_istore (pc := 115) C dX9_copy_115 (by decide) rfl ?_
                  refine l_X9_copy1 (f := f) (a := a0) C ha0 (by omega) ?_ n2 0 _ (by omega) (fillM_0.symm)
                  intro g hg
                  subst hg
                  refine r_iconst (pc := 151) C (0) dX9_copy_151 (by decide) ?_
                  refine r_istore (pc := 152) C dX9_copy_152 (by decide) rfl ?_
                  refine l_X9_copy2 (f := f) (a := a0) C hb0 (by omega) ?_ n2 0 _ (by omega) (fillM_0.symm)
                  intro g hg
                  subst hg
                  refine r_aload_n (pc := 189) C dX9_copy_189 rfl ?_
                  refine r_iload (pc := 190) C dX9_copy_190 rfl ?_
                  refine q_vIf (pc := 192) C kX9_81 dX9_copy_192 (c_X9_well) (s_85 _) rfl rfl (Nat.le_of_ble_eq_true rfl) (by decide) ⟨by decide, by decide⟩ ?_
                  refine q_iret (pc := 195) C dX9_copy_195 rfl ?_
                  refine pr ?_
                  have t1 : tn (nI i1) = i1 := tn_nI (by omega)
                  have t2 : tn (nI j1) = j1 := tn_nI (by omega)
                  have t3 : tn (nI n2) = n2 := tn_nI (by omega)
                  simp only [R_copy, c4, c11, ta, tb, e23, tsa, c32, tsb, c53, c84, c105, if_true, t1, t2, t3, R_copyF]
                · replace c105 := b1_0 c105
                  refine r_aload_n (pc := 108) C dX9_copy_108 rfl ?_
                  refine r_iconst (pc := 109) C (2) dX9_copy_109 (by decide) ?_
                  refine q_vIf (pc := 110) C kX9_77 dX9_copy_110 (c_X9_find) (s_85 _) rfl rfl (Nat.le_of_ble_eq_true rfl) (by decide) ⟨by decide, by decide⟩ ?_
                  refine q_iret (pc := 113) C dX9_copy_113 rfl ?_
                  exact pr (by simp [R_copy, c4, ta, c11, tb, e23, tsa, c32, tsb, c53, c84, c105])
          · refine r_aload_n (pc := 56) C dX9_copy_56 rfl ?_
            refine r_iconst (pc := 57) C (5) dX9_copy_57 (by decide) ?_
            refine q_vIf (pc := 58) C kX9_77 dX9_copy_58 (c_X9_find) (s_85 _) rfl rfl (Nat.le_of_ble_eq_true rfl) (by decide) ⟨by decide, by decide⟩ ?_
            refine q_iret (pc := 61) C dX9_copy_61 rfl ?_
            exact pr (by simp [R_copy, c4, ta, c11, tb, e23, tsa, c32, tsb, c53])
        · refine r_aload_n (pc := 35) C dX9_copy_35 rfl ?_
          refine r_iconst (pc := 36) C (1) dX9_copy_36 (by decide) ?_
          refine q_vIf (pc := 37) C kX9_77 dX9_copy_37 (c_X9_find) (s_85 _) rfl rfl (Nat.le_of_ble_eq_true rfl) (by decide) ⟨by decide, by decide⟩ ?_
          refine q_iret (pc := 40) C dX9_copy_40 rfl ?_
          exact pr (by simp [R_copy, c4, ta, c11, tb, e23, tsa, c32])
    · replace c11 := b1_0 c11
      refine r_ldc (pc := 14) C (-1000001) kX9_76 dX9_copy_14 ?_
      refine q_iret (pc := 16) C dX9_copy_16 rfl ?_
      exact pr (by simp [R_copy, c4, ta, c11])
