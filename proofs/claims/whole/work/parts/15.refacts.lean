/-! THE REFERENCE: acts, what is foretold of one rule -/
def allI (n : Nat) : Int32 := ((1 : Int32) <<< (nI n &&& 31)) - 1
def noteF (f : MM) (a : Nat) : MM := if a = 24 then u2 (fillM (u2 (fillM f 93 0 1288 (fun t => f 93 (t + 56))) 85 18 (nI 23)) 93 (56 * 23) 56 (f 89)) 85 18 (nI 24) else u2 (fillM f 93 (56 * a) 56 (f 89)) 85 18 (nI (a + 1))
theorem fillM_row {g0 : MM} {c a i k : Nat} {s : Nat → Int32} (h : k ≠ c) : fillM g0 c a i s k = g0 k := by
  funext b
  exact fillM_ne h
theorem noteF_row {f : MM} {a k : Nat} (h : k ≠ 93) (h2 : k ≠ 85) : noteF f a k = f k := by
  unfold noteF
  split
  · rw [u2_row h2, fillM_row h, u2_row h2, fillM_row h]
  · rw [u2_row h2, fillM_row h]
theorem noteF_85 {f : MM} {a b : Nat} (h : b ≠ 18) : noteF f a 85 b = f 85 b := by
  unfold noteF
  split <;> simp [u2, fillM, h]
set_option maxRecDepth 100000 in
set_option maxHeartbeats 4000000 in
theorem l_note1 {X : XT} {G : GG} {kn : Nat} {Q : State → Prop} {f : MM} (C : Cx X G mX9_note 1 0 0 (NN kn))  (K : ∀ g : MM, (fun i g => g = fillM f 93 0 i (fun t => f 93 (t + 56))) 1288 g → Vw X G mX9_note.2.2.2.1 0 0 Q (NN kn) (shF kn) g 39 [some (.ref (G.1 + 85)), some (.int (nI 1288))] []) : ∀ (m i : Nat) (g : MM), i + m = 1288 → (fun i g => g = fillM f 93 0 i (fun t => f 93 (t + 56))) i g → Vw X G mX9_note.2.2.2.1 0 0 Q (NN kn) (shF kn) g 11 [some (.ref (G.1 + 85)), some (.int (nI i))] [] := by
  intro m
  induction m with
  | zero =>
    intro i g hm hg
    obtain rfl : 1288 = i := by omega
    subst hg
    refine r_iload_n (pc := 11) C dX9_note_11 rfl ?_
    refine r_sipush (pc := 12) C (1288) dX9_note_12 (by decide) ?_
    refine q_ge (pc := 15) C 1288 1288 39 rfl rfl (by omega) (by omega) dX9_note_15 (by decide) (fun c15 => ?_) (fun c15 => ?_)
    · exact K _ rfl
    · exact absurd c15 (by omega)
  | succ m ih =>
    intro i g hm hg
    subst hg
    refine r_iload_n (pc := 11) C dX9_note_11 rfl ?_
    refine r_sipush (pc := 12) C (1288) dX9_note_12 (by decide) ?_
    refine q_ge (pc := 15) C i 1288 39 rfl rfl (by omega) (by omega) dX9_note_15 (by decide) (fun c15 => ?_) (fun c15 => ?_)
    · exact absurd c15 (by omega)
    · refine r_aload_n (pc := 18) C dX9_note_18 rfl ?_
      refine r_getr (pc := 19) C fX9_31 dX9_note_19 (s_85 _) rfl rfl ?_
      refine r_iload_n (pc := 22) C dX9_note_22 rfl ?_
      refine r_aload_n (pc := 23) C dX9_note_23 rfl ?_
      refine r_getr (pc := 24) C fX9_31 dX9_note_24 (s_85 _) rfl rfl ?_
      refine r_iload_n (pc := 27) C dX9_note_27 rfl ?_
      refine r_bipush (pc := 28) C (56) dX9_note_28 (by decide) ?_
      refine r_iadd (pc := 30) C dX9_note_30 ?_
      refine q_iald (pc := 31) C (i + 56) dX9_note_31 (s_93 _) (sn_93 _) (nI_add i 56) (by omega) (by decide) ?_
      refine q_iast (pc := 32) C i dX9_note_32 (s_93 _) (sn_93 _) rfl (by omega) (by decide) ?_
      refine r_iinc (pc := 33) C (nI (i + 1)) dX9_note_33 rfl (nI_inc _) (by decide) rfl ?_
      refine r_goto (pc := 36) C 11 dX9_note_36 (by decide) ?_
      refine ih (i + 1) _ (by omega) ?_
      exact fillM_step0 (fillM_out (by omega))
set_option maxRecDepth 100000 in
set_option maxHeartbeats 4000000 in
theorem l_note2 {X : XT} {G : GG} {kn : Nat} {Q : State → Prop} {g0 : MM} {a : Nat} (C : Cx X G mX9_note 1 0 0 (NN kn)) (ha : a < 24) (hma : g0 85 18 = nI a) (K : ∀ g : MM, (fun i g => g = fillM g0 93 (56 * a) i (g0 89)) 56 g → Vw X G mX9_note.2.2.2.1 0 0 Q (NN kn) (shF kn) g 83 [some (.ref (G.1 + 85)), some (.int (nI 56))] []) : ∀ (m i : Nat) (g : MM), i + m = 56 → (fun i g => g = fillM g0 93 (56 * a) i (g0 89)) i g → Vw X G mX9_note.2.2.2.1 0 0 Q (NN kn) (shF kn) g 51 [some (.ref (G.1 + 85)), some (.int (nI i))] [] := by
  intro m
  induction m with
  | zero =>
    intro i g hm hg
    obtain rfl : 56 = i := by omega
    subst hg
    refine r_iload_n (pc := 51) C dX9_note_51 rfl ?_
    refine r_bipush (pc := 52) C (56) dX9_note_52 (by decide) ?_
    refine q_ge (pc := 54) C 56 56 83 rfl rfl (by omega) (by omega) dX9_note_54 (by decide) (fun c54 => ?_) (fun c54 => ?_)
    · exact K _ rfl
    · exact absurd c54 (by omega)
  | succ m ih =>
    intro i g hm hg
    subst hg
    refine r_iload_n (pc := 51) C dX9_note_51 rfl ?_
    refine r_bipush (pc := 52) C (56) dX9_note_52 (by decide) ?_
    refine q_ge (pc := 54) C i 56 83 rfl rfl (by omega) (by omega) dX9_note_54 (by decide) (fun c54 => ?_) (fun c54 => ?_)
    · exact absurd c54 (by omega)
    · refine r_aload_n (pc := 57) C dX9_note_57 rfl ?_
      refine r_getr (pc := 58) C fX9_31 dX9_note_58 (s_85 _) rfl rfl ?_
      refine r_bipush (pc := 61) C (56) dX9_note_61 (by decide) ?_
      refine r_aload_n (pc := 63) C dX9_note_63 rfl ?_
      refine r_get (pc := 64) C fX9_158 dX9_note_64 (s_85 _) rfl ?_
      refine r_imul (pc := 67) C dX9_note_67 ?_
      refine r_iload_n (pc := 68) C dX9_note_68 rfl ?_
      refine r_iadd (pc := 69) C dX9_note_69 ?_
      refine r_aload_n (pc := 70) C dX9_note_70 rfl ?_
      refine r_getr (pc := 71) C fX9_19 dX9_note_71 (s_85 _) rfl rfl ?_
      refine r_iload_n (pc := 74) C dX9_note_74 rfl ?_
      refine q_iald (pc := 75) C i dX9_note_75 (s_89 _) (sn_89 _) rfl (by omega) (by decide) ?_
      refine q_iast (pc := 76) C ((56 * a) + i) dX9_note_76 (s_93 _) (sn_93 _) (nI_addE (pk_mulE rfl ((fillM_ne (by decide)).trans hma)) rfl) (by omega) (by decide) ?_
      refine r_iinc (pc := 77) C (nI (i + 1)) dX9_note_77 rfl (nI_inc _) (by decide) rfl ?_
      refine r_goto (pc := 80) C 51 dX9_note_80 (by decide) ?_
      refine ih (i + 1) _ (by omega) ?_
      exact fillM_step (fillM_ne (by decide))
set_option maxRecDepth 100000 in
set_option maxHeartbeats 4000000 in
theorem c_X9_note {G : GG} {kn : Nat} {f : MM} {a : Nat} (ha : a ≤ 24) (hm : f 85 18 = nI a) : CV G mX9_note 1 kn [.ref (G.1 + 85)] f (noteF f a) := by
  refine Ct.of [some (.ref (G.1 + 85)), none] rfl (by decide +kernel) rfl (Nat.le_of_ble_eq_true rfl) rfl ?_
  intro X C
  refine r_aload_n (pc := 0) C dX9_note_0 rfl ?_
  refine r_get (pc := 1) C fX9_158 dX9_note_1 (s_85 _) rfl ?_
  refine r_bipush (pc := 4) C (24) dX9_note_4 (by decide) ?_
  refine q_ne (pc := 6) C a 24 49 hm rfl (by omega) (by omega) dX9_note_6 (by decide) (fun c6 => ?_) (fun c6 => ?_)
  · refine r_iconst (pc := 49) C (0) dX9_note_49 (by decide) ?_
    refine r_istore_n (pc := 50) C dX9_note_50 (by decide) rfl ?_
    refine v_drop _ (by repeat (first | exact trivial | exact rfl | constructor)) (l_note2 (g0 := f) (a := a) C (by omega) hm ?_ 56 0 _ rfl fillM_0.symm)
    intro g hg
    subst hg
    refine r_aload_n (pc := 83) C dX9_note_83 rfl ?_
    refine r_dup (pc := 84) C dX9_note_84 rfl ?_
    refine r_get (pc := 85) C fX9_158 dX9_note_85 (s_85 _) rfl ?_
    refine q_is (a) (by simp [fillM, hm]) ?_
    refine r_iconst (pc := 88) C (1) dX9_note_88 (by decide) ?_
    refine r_iadd (pc := 89) C dX9_note_89 ?_
    refine q_is (a + 1) (nI_1 _) ?_
    refine r_put (pc := 90) C fX9_158 ftX9_18 dX9_note_90 (s_85 _) rfl ?_
    refine q_vret (pc := 93) C dX9_note_93 rfl ?_
    rw [noteF, if_neg c6]
  · refine r_iconst (pc := 9) C (0) dX9_note_9 (by decide) ?_
    refine r_istore_n (pc := 10) C dX9_note_10 (by decide) rfl ?_
    refine l_note1 (f := f) C ?_ 1288 0 _ rfl fillM_0.symm
    intro g hg
    subst hg
    refine r_aload_n (pc := 39) C dX9_note_39 rfl ?_
    refine r_dup (pc := 40) C dX9_note_40 rfl ?_
    refine r_get (pc := 41) C fX9_158 dX9_note_41 (s_85 _) rfl ?_
    refine q_is 24 (by simp [fillM, hm, c6]) ?_
    refine r_iconst (pc := 44) C (1) dX9_note_44 (by decide) ?_
    refine r_isub (pc := 45) C dX9_note_45 ?_
    refine q_is 23 (by decide) ?_
    refine r_put (pc := 46) C fX9_158 ftX9_18 dX9_note_46 (s_85 _) rfl ?_
    refine r_iconst (pc := 49) C (0) dX9_note_49 (by decide) ?_
    refine r_istore_n (pc := 50) C dX9_note_50 (by decide) rfl ?_
    refine v_drop _ (by repeat (first | exact trivial | exact rfl | constructor)) (l_note2 (g0 := u2 (fillM f 93 0 1288 (fun t => f 93 (t + 56))) 85 18 (nI 23)) (a := 23) C (by omega) (by simp [u2]) ?_ 56 0 _ rfl fillM_0.symm)
    intro g hg
    subst hg
    refine r_aload_n (pc := 83) C dX9_note_83 rfl ?_
    refine r_dup (pc := 84) C dX9_note_84 rfl ?_
    refine r_get (pc := 85) C fX9_158 dX9_note_85 (s_85 _) rfl ?_
    refine q_is (23) (by simp [u2, fillM]) ?_
    refine r_iconst (pc := 88) C (1) dX9_note_88 (by decide) ?_
    refine r_iadd (pc := 89) C dX9_note_89 ?_
    refine q_is (23 + 1) (nI_1 _) ?_
    refine r_put (pc := 90) C fX9_158 ftX9_18 dX9_note_90 (s_85 _) rfl ?_
    refine q_vret (pc := 93) C dX9_note_93 rfl ?_
    rw [noteF, if_pos c6, u2_row (by decide), fillM_row (by decide)]
def goF (f : MM) (n L g a : Nat) : MM := va_up (u2 (noteF f a) 85 16 (allI n)) 89 (goS n L g (allI n) (f 89))
def R_go (f : MM) (n L g a : Nat) : Int32 × MM := if f 85 4 = 0 then (-1000002, f) else if g = L then (-1000002, f) else (nI (g + 1), goF f n L g a)
set_option maxRecDepth 100000 in
set_option maxHeartbeats 4000000 in
theorem c_X9_go {G : GG} {kn : Nat} {f : MM} {n L g a : Nat} (hn : n ≤ 6) (hL : L ≤ 8) (hg : g ≤ L) (ha : a ≤ 24) (h13 : f 89 13 = nI n) (h8 : f 89 8 = nI L) (h9 : f 89 9 = nI g) (hm : f 85 18 = nI a) : CI G mX9_go 5 kn [.ref (G.1 + 85)] f (R_go f n L g a).1 (R_go f n L g a).2 := by
  refine Ct.of [some (.ref (G.1 + 85))] rfl (by decide +kernel) rfl (Nat.le_of_ble_eq_true rfl) rfl ?_
  intro X C
  refine r_aload_n (pc := 0) C dX9_go_0 rfl ?_
  refine r_get (pc := 1) C fX9_154 dX9_go_1 (s_85 _) rfl ?_
  refine r_if_eq (pc := 4) C 24 dX9_go_4 (by decide) (fun c4 => ?_) (fun c4 => ?_)
  · refine r_ldc (pc := 24) C (-1000002) kX9_183 dX9_go_24 ?_
    refine q_iret (pc := 26) C dX9_go_26 rfl ?_
    exact pr (by simp [R_go, c4])
  · refine r_aload_n (pc := 7) C dX9_go_7 rfl ?_
    refine r_getr (pc := 8) C fX9_19 dX9_go_8 (s_85 _) rfl rfl ?_
    refine r_bipush (pc := 11) C (9) dX9_go_11 (by decide) ?_
    refine q_iald (pc := 13) C 9 dX9_go_13 (s_89 _) (sn_89 _) rfl (by omega) (by decide) ?_
    refine r_aload_n (pc := 14) C dX9_go_14 rfl ?_
    refine r_getr (pc := 15) C fX9_19 dX9_go_15 (s_85 _) rfl rfl ?_
    refine r_bipush (pc := 18) C (8) dX9_go_18 (by decide) ?_
    refine q_iald (pc := 20) C 8 dX9_go_20 (s_89 _) (sn_89 _) rfl (by omega) (by decide) ?_
    refine q_ne (pc := 21) C g L 27 h9 h8 (by omega) (by omega) dX9_go_21 (by decide) (fun c21 => ?_) (fun c21 => ?_)
    · refine r_aload_n (pc := 27) C dX9_go_27 rfl ?_
      refine q_vVf (pc := 28) C kX9_184 dX9_go_28 (c_X9_note ha hm) (s_85 _) rfl rfl (Nat.le_of_ble_eq_true rfl) (by decide) ⟨by decide, by decide⟩ ?_
      refine r_aload_n (pc := 31) C dX9_go_31 rfl ?_
      refine r_aload_n (pc := 32) C dX9_go_32 rfl ?_
      refine q_vIf (pc := 33) C kX9_187 dX9_go_33 (c_X9_all (n := n) (by rw [noteF_row (by decide) (by decide)]; exact h13)) (s_85 _) rfl rfl (Nat.le_of_ble_eq_true rfl) (by decide) ⟨by decide, by decide⟩ ?_
      refine q_val (allI n) rfl ?_
      refine r_put (pc := 36) C fX9_161 ftX9_16 dX9_go_36 (s_85 _) rfl ?_
      refine r_aload_n (pc := 39) C dX9_go_39 rfl ?_
      refine q_vVf (pc := 40) C kX9_190 dX9_go_40 (c_X9_goOn (n := n) (L := L) (g := g) hn hL (by omega) (by rw [u2_row (by decide), noteF_row (by decide) (by decide)]; exact h13) (by rw [u2_row (by decide), noteF_row (by decide) (by decide)]; exact h8) (by rw [u2_row (by decide), noteF_row (by decide) (by decide)]; exact h9)) (s_85 _) rfl rfl (Nat.le_of_ble_eq_true rfl) (by decide) ⟨by decide, by decide⟩ ?_
      refine q_f (f' := goF f n L g a) (by rw [goF, u2_row (k := 89) (by decide), noteF_row (k := 89) (by decide) (by decide), show u2 (noteF f a) 85 16 (allI n) 85 16 = allI n by simp [u2]]) ?_
      refine r_aload_n (pc := 43) C dX9_go_43 rfl ?_
      refine r_getr (pc := 44) C fX9_19 dX9_go_44 (s_85 _) rfl rfl ?_
      refine r_bipush (pc := 47) C (9) dX9_go_47 (by decide) ?_
      refine q_iald (pc := 49) C 9 dX9_go_49 (s_89 _) (sn_89 _) rfl (by omega) (by decide) ?_
      refine q_val (nI (g + 1)) (by rw [goF, up_at]; exact goS_9) ?_
      refine q_iret (pc := 50) C dX9_go_50 rfl ?_
      exact pr (by simp [R_go, c4, c21])
    · refine r_ldc (pc := 24) C (-1000002) kX9_183 dX9_go_24 ?_
      refine q_iret (pc := 26) C dX9_go_26 rfl ?_
      exact pr (by simp [R_go, c4, c21])
def R_rule (f : MM) (a : Nat) (r m : Int32) : Int32 × MM := if f 85 4 = 0 then (-1000002, f) else if inR r 4 = true then if inR m 31 = true then (31 * f 89 10 + f 89 11, u2 (u2 (noteF f a) 89 10 r) 89 11 m) else (-1000001, f) else (-1000001, f)
set_option maxRecDepth 100000 in
set_option maxHeartbeats 4000000 in
theorem c_X9_rule {G : GG} {kn : Nat} {f : MM} {k : Nat} (ha : k ≤ 24) (hm : f 85 18 = nI k) {a b : Int32} : CI G mX9_rule 2 kn [.ref (G.1 + 85), .int a, .int b] f (R_rule f k a b).1 (R_rule f k a b).2 := by
  refine Ct.of [some (.ref (G.1 + 85)), some (.int a), some (.int b), none] rfl (by decide +kernel) rfl (Nat.le_of_ble_eq_true rfl) rfl ?_
  intro X C
  refine r_aload_n (pc := 0) C dX9_rule_0 rfl ?_
  refine r_get (pc := 1) C fX9_154 dX9_rule_1 (s_85 _) rfl ?_
  refine r_if_ne (pc := 4) C 10 dX9_rule_4 (by decide) (fun c4 => ?_) (fun c4 => ?_)
  · refine r_iload_n (pc := 10) C dX9_rule_10 rfl ?_
    refine r_i2l (pc := 11) C dX9_rule_11 ?_
    refine r_lconst (pc := 12) C (0) dX9_rule_12 (by decide) ?_
    refine r_ldc2 (pc := 13) C (3) kX9_193 dX9_rule_13 ?_
    refine q_sIf (pc := 16) C kX9_66 dX9_rule_16 (c_in0 (hi := 3) 4 rfl (by decide) (by decide)) rfl rfl (Nat.le_of_ble_eq_true rfl) (by decide) ⟨by decide, by decide⟩ ?_
    refine r_if_eq (pc := 19) C 34 dX9_rule_19 (by decide) (fun c19 => ?_) (fun c19 => ?_)
    · replace c19 := b1_0 c19
      refine r_ldc (pc := 34) C (-1000001) kX9_76 dX9_rule_34 ?_
      refine q_iret (pc := 36) C dX9_rule_36 rfl ?_
      exact pr (by simp [R_rule, c4, c19])
    · replace c19 := b1_1 c19
      refine r_iload_n (pc := 22) C dX9_rule_22 rfl ?_
      refine r_i2l (pc := 23) C dX9_rule_23 ?_
      refine r_lconst (pc := 24) C (0) dX9_rule_24 (by decide) ?_
      refine r_ldc2 (pc := 25) C (30) kX9_195 dX9_rule_25 ?_
      refine q_sIf (pc := 28) C kX9_66 dX9_rule_28 (c_in0 (hi := 30) 31 rfl (by decide) (by decide)) rfl rfl (Nat.le_of_ble_eq_true rfl) (by decide) ⟨by decide, by decide⟩ ?_
      refine r_if_ne (pc := 31) C 37 dX9_rule_31 (by decide) (fun c31 => ?_) (fun c31 => ?_)
      · replace c31 := b1_1 c31
        refine r_aload_n (pc := 37) C dX9_rule_37 rfl ?_
        refine q_vVf (pc := 38) C kX9_184 dX9_rule_38 (c_X9_note ha hm) (s_85 _) rfl rfl (Nat.le_of_ble_eq_true rfl) (by decide) ⟨by decide, by decide⟩ ?_
        refine r_bipush (pc := 41) C (31) dX9_rule_41 (by decide) ?_
        refine r_aload_n (pc := 43) C dX9_rule_43 rfl ?_
        refine r_getr (pc := 44) C fX9_19 dX9_rule_44 (s_85 _) rfl rfl ?_
        refine r_bipush (pc := 47) C (10) dX9_rule_47 (by decide) ?_
        refine q_iald (pc := 49) C 10 dX9_rule_49 (s_89 _) (sn_89 _) rfl (by omega) (by decide) ?_
        refine q_val (f 89 10) (by rw [noteF_row (by decide) (by decide)]) ?_
        refine r_imul (pc := 50) C dX9_rule_50 ?_
        refine r_aload_n (pc := 51) C dX9_rule_51 rfl ?_
        refine r_getr (pc := 52) C fX9_19 dX9_rule_52 (s_85 _) rfl rfl ?_
        refine r_bipush (pc := 55) C (11) dX9_rule_55 (by decide) ?_
        refine q_iald (pc := 57) C 11 dX9_rule_57 (s_89 _) (sn_89 _) rfl (by omega) (by decide) ?_
        refine q_val (f 89 11) (by rw [noteF_row (by decide) (by decide)]) ?_
        refine r_iadd (pc := 58) C dX9_rule_58 ?_
        refine r_istore_n (pc := 59) C dX9_rule_59 (by decide) rfl ?_
        refine r_aload_n (pc := 60) C dX9_rule_60 rfl ?_
        refine r_getr (pc := 61) C fX9_19 dX9_rule_61 (s_85 _) rfl rfl ?_
        refine r_bipush (pc := 64) C (10) dX9_rule_64 (by decide) ?_
        refine r_iload_n (pc := 66) C dX9_rule_66 rfl ?_
        refine q_iast (pc := 67) C 10 dX9_rule_67 (s_89 _) (sn_89 _) rfl (by omega) (by decide) ?_
        refine r_aload_n (pc := 68) C dX9_rule_68 rfl ?_
        refine r_getr (pc := 69) C fX9_19 dX9_rule_69 (s_85 _) rfl rfl ?_
        refine r_bipush (pc := 72) C (11) dX9_rule_72 (by decide) ?_
        refine r_iload_n (pc := 74) C dX9_rule_74 rfl ?_
        refine q_iast (pc := 75) C 11 dX9_rule_75 (s_89 _) (sn_89 _) rfl (by omega) (by decide) ?_
        refine r_iload_n (pc := 76) C dX9_rule_76 rfl ?_
        refine q_iret (pc := 77) C dX9_rule_77 rfl ?_
        exact pr (by simp [R_rule, c4, c19, c31])
      · replace c31 := b1_0 c31
        refine r_ldc (pc := 34) C (-1000001) kX9_76 dX9_rule_34 ?_
        refine q_iret (pc := 36) C dX9_rule_36 rfl ?_
        exact pr (by simp [R_rule, c4, c19, c31])
  · refine r_ldc (pc := 7) C (-1000002) kX9_183 dX9_rule_7 ?_
    refine q_iret (pc := 9) C dX9_rule_9 rfl ?_
    exact pr (by simp [R_rule, c4])
set_option maxRecDepth 100000 in
set_option maxHeartbeats 4000000 in
theorem c_X9_isWalker {G : GG} {kn : Nat} {f : MM} {n : Nat} (hn : n ≤ 6) (h13 : f 89 13 = nI n) {a : Int32} : CI G mX9_isWalker 2 kn [.ref (G.1 + 85), .int a] f (b1 (inR a n)) f := by
  refine Ct.of [some (.ref (G.1 + 85)), some (.int a)] rfl (by decide +kernel) rfl (Nat.le_of_ble_eq_true rfl) rfl ?_
  intro X C
  refine r_iload_n (pc := 0) C dX9_isWalker_0 rfl ?_
  refine r_i2l (pc := 1) C dX9_isWalker_1 ?_
  refine r_lconst (pc := 2) C (0) dX9_isWalker_2 (by decide) ?_
  refine r_aload_n (pc := 3) C dX9_isWalker_3 rfl ?_
  refine r_getr (pc := 4) C fX9_19 dX9_isWalker_4 (s_85 _) rfl rfl ?_
  refine r_bipush (pc := 7) C (13) dX9_isWalker_7 (by decide) ?_
  refine q_iald (pc := 9) C 13 dX9_isWalker_9 (s_89 _) (sn_89 _) rfl (by omega) (by decide) ?_
  refine r_iconst (pc := 10) C (1) dX9_isWalker_10 (by decide) ?_
  refine r_isub (pc := 11) C dX9_isWalker_11 ?_
  refine r_i2l (pc := 12) C dX9_isWalker_12 ?_
  refine q_sIf (pc := 13) C kX9_66 dX9_isWalker_13 (c_in0 (hi := f 89 13 - 1) n rfl rfl (by rw [h13]; exact nI_m1 (by omega))) rfl rfl (Nat.le_of_ble_eq_true rfl) (by decide) ⟨by decide, by decide⟩ ?_
  refine q_zret (pc := 16) C dX9_isWalker_16 rfl (b1_z _) ?_
  exact ⟨rfl, rfl⟩
def R_give (f : MM) (n k : Nat) (a b : Int32) : Int32 × MM := if inR a n = true then if inR b n = true then if a = b then (-1000001, f) else if f 89 (26 + tn a) + f 89 (26 + tn b) ≤ 20 then (f 89 (26 + tn a) + f 89 (26 + tn b), u2 (u2 (noteF f k) 89 (26 + tn a) 0) 89 (26 + tn b) (f 89 (26 + tn a) + f 89 (26 + tn b))) else (-1000003, f) else (-1000001, f) else (-1000001, f)
set_option maxRecDepth 100000 in
set_option maxHeartbeats 4000000 in
theorem c_X9_give {G : GG} {kn : Nat} {f : MM} {n k : Nat} (hn : n ≤ 6) (h13 : f 89 13 = nI n) (ha : k ≤ 24) (hm : f 85 18 = nI k) {a b : Int32} : CI G mX9_give 3 kn [.ref (G.1 + 85), .int a, .int b] f (R_give f n k a b).1 (R_give f n k a b).2 := by
  refine Ct.of [some (.ref (G.1 + 85)), some (.int a), some (.int b), none] rfl (by decide +kernel) rfl (Nat.le_of_ble_eq_true rfl) rfl ?_
  intro X C
  refine r_aload_n (pc := 0) C dX9_give_0 rfl ?_
  refine r_iload_n (pc := 1) C dX9_give_1 rfl ?_
  refine q_vIf (pc := 2) C kX9_197 dX9_give_2 (c_X9_isWalker hn h13) (s_85 _) rfl rfl (Nat.le_of_ble_eq_true rfl) (by decide) ⟨by decide, by decide⟩ ?_
  refine r_if_eq (pc := 5) C 21 dX9_give_5 (by decide) (fun c5 => ?_) (fun c5 => ?_)
  · replace c5 := b1_0 c5
    refine r_ldc (pc := 21) C (-1000001) kX9_76 dX9_give_21 ?_
    refine q_iret (pc := 23) C dX9_give_23 rfl ?_
    exact pr (by simp [R_give, c5])
  · replace c5 := b1_1 c5
    obtain ⟨i, hi, rfl⟩ := inR_of c5
    have ti : tn (nI i) = i := tn_nI (by omega)
    refine r_aload_n (pc := 8) C dX9_give_8 rfl ?_
    refine r_iload_n (pc := 9) C dX9_give_9 rfl ?_
    refine q_vIf (pc := 10) C kX9_197 dX9_give_10 (c_X9_isWalker hn h13) (s_85 _) rfl rfl (Nat.le_of_ble_eq_true rfl) (by decide) ⟨by decide, by decide⟩ ?_
    refine r_if_eq (pc := 13) C 21 dX9_give_13 (by decide) (fun c13 => ?_) (fun c13 => ?_)
    · replace c13 := b1_0 c13
      refine r_ldc (pc := 21) C (-1000001) kX9_76 dX9_give_21 ?_
      refine q_iret (pc := 23) C dX9_give_23 rfl ?_
      exact pr (by simp [R_give, c5, ti, c13])
    · replace c13 := b1_1 c13
      obtain ⟨j, hj, rfl⟩ := inR_of c13
      have tj : tn (nI j) = j := tn_nI (by omega)
      refine r_iload_n (pc := 16) C dX9_give_16 rfl ?_
      refine r_iload_n (pc := 17) C dX9_give_17 rfl ?_
      refine r_icmp_ne (pc := 18) C 24 dX9_give_18 (by decide) (fun c18 => ?_) (fun c18 => ?_)
      · refine r_aload_n (pc := 24) C dX9_give_24 rfl ?_
        refine r_getr (pc := 25) C fX9_19 dX9_give_25 (s_85 _) rfl rfl ?_
        refine r_bipush (pc := 28) C (26) dX9_give_28 (by decide) ?_
        refine r_iload_n (pc := 30) C dX9_give_30 rfl ?_
        refine r_iadd (pc := 31) C dX9_give_31 ?_
        refine q_iald (pc := 32) C (26 + i) dX9_give_32 (s_89 _) (sn_89 _) (nI_add 26 i) (by omega) (by decide) ?_
        refine r_aload_n (pc := 33) C dX9_give_33 rfl ?_
        refine r_getr (pc := 34) C fX9_19 dX9_give_34 (s_85 _) rfl rfl ?_
        refine r_bipush (pc := 37) C (26) dX9_give_37 (by decide) ?_
        refine r_iload_n (pc := 39) C dX9_give_39 rfl ?_
        refine r_iadd (pc := 40) C dX9_give_40 ?_
        refine q_iald (pc := 41) C (26 + j) dX9_give_41 (s_89 _) (sn_89 _) (nI_add 26 j) (by omega) (by decide) ?_
        refine r_iadd (pc := 42) C dX9_give_42 ?_
        refine r_istore_n (pc := 43) C dX9_give_43 (by decide) rfl ?_
        refine r_iload_n (pc := 44) C dX9_give_44 rfl ?_
        refine r_bipush (pc := 45) C (20) dX9_give_45 (by decide) ?_
        refine r_icmp_le (pc := 47) C 53 dX9_give_47 (by decide) (fun c47 => ?_) (fun c47 => ?_)
        · refine r_aload_n (pc := 53) C dX9_give_53 rfl ?_
          refine q_vVf (pc := 54) C kX9_184 dX9_give_54 (c_X9_note ha hm) (s_85 _) rfl rfl (Nat.le_of_ble_eq_true rfl) (by decide) ⟨by decide, by decide⟩ ?_
          refine r_aload_n (pc := 57) C dX9_give_57 rfl ?_
          refine r_getr (pc := 58) C fX9_19 dX9_give_58 (s_85 _) rfl rfl ?_
          refine r_bipush (pc := 61) C (26) dX9_give_61 (by decide) ?_
          refine r_iload_n (pc := 63) C dX9_give_63 rfl ?_
          refine r_iadd (pc := 64) C dX9_give_64 ?_
          refine r_iconst (pc := 65) C (0) dX9_give_65 (by decide) ?_
          refine q_iast (pc := 66) C (26 + i) dX9_give_66 (s_89 _) (sn_89 _) (nI_add 26 i) (by omega) (by decide) ?_
          refine r_aload_n (pc := 67) C dX9_give_67 rfl ?_
          refine r_getr (pc := 68) C fX9_19 dX9_give_68 (s_85 _) rfl rfl ?_
          refine r_bipush (pc := 71) C (26) dX9_give_71 (by decide) ?_
          refine r_iload_n (pc := 73) C dX9_give_73 rfl ?_
          refine r_iadd (pc := 74) C dX9_give_74 ?_
          refine r_iload_n (pc := 75) C dX9_give_75 rfl ?_
          refine q_iast (pc := 76) C (26 + j) dX9_give_76 (s_89 _) (sn_89 _) (nI_add 26 j) (by omega) (by decide) ?_
          refine r_iload_n (pc := 77) C dX9_give_77 rfl ?_
          refine q_iret (pc := 78) C dX9_give_78 rfl ?_
          exact pr (by simp [R_give, c5, ti, c13, tj, c18, c47])
        · refine r_ldc (pc := 50) C (-1000003) kX9_93 dX9_give_50 ?_
          refine q_iret (pc := 52) C dX9_give_52 rfl ?_
          exact pr (by simp [R_give, c5, ti, c13, tj, c18, c47])
      · refine r_ldc (pc := 21) C (-1000001) kX9_76 dX9_give_21 ?_
        refine q_iret (pc := 23) C dX9_give_23 rfl ?_
        exact pr (by simp [R_give, c5, ti, c13, tj, c18])
def R_undo (f : MM) (a : Nat) : Int32 × MM := if a = 0 then (-1000002, f) else (nI (a - 1), fillM (u2 f 85 18 (nI (a - 1))) 89 0 56 (fun t => f 93 (56 * (a - 1) + t)))
set_option maxRecDepth 100000 in
set_option maxHeartbeats 4000000 in
theorem l_undo {X : XT} {G : GG} {kn : Nat} {Q : State → Prop} {g0 : MM} {a : Nat} (C : Cx X G mX9_undo 1 0 0 (NN kn)) (ha : a < 24) (hma : g0 85 18 = nI a) (K : ∀ g : MM, (fun i g => g = fillM g0 89 0 i (fun t => g0 93 (56 * a + t))) 56 g → Vw X G mX9_undo.2.2.2.1 0 0 Q (NN kn) (shF kn) g 54 [some (.ref (G.1 + 85)), some (.int (nI 56))] []) : ∀ (m i : Nat) (g : MM), i + m = 56 → (fun i g => g = fillM g0 89 0 i (fun t => g0 93 (56 * a + t))) i g → Vw X G mX9_undo.2.2.2.1 0 0 Q (NN kn) (shF kn) g 22 [some (.ref (G.1 + 85)), some (.int (nI i))] [] := by
  intro m
  induction m with
  | zero =>
    intro i g hm hg
    obtain rfl : 56 = i := by omega
    subst hg
    refine r_iload_n (pc := 22) C dX9_undo_22 rfl ?_
    refine r_bipush (pc := 23) C (56) dX9_undo_23 (by decide) ?_
    refine q_ge (pc := 25) C 56 56 54 rfl rfl (by omega) (by omega) dX9_undo_25 (by decide) (fun c25 => ?_) (fun c25 => ?_)
    · exact K _ rfl
    · exact absurd c25 (by omega)
  | succ m ih =>
    intro i g hm hg
    subst hg
    refine r_iload_n (pc := 22) C dX9_undo_22 rfl ?_
    refine r_bipush (pc := 23) C (56) dX9_undo_23 (by decide) ?_
    refine q_ge (pc := 25) C i 56 54 rfl rfl (by omega) (by omega) dX9_undo_25 (by decide) (fun c25 => ?_) (fun c25 => ?_)
    · exact absurd c25 (by omega)
    · refine r_aload_n (pc := 28) C dX9_undo_28 rfl ?_
      refine r_getr (pc := 29) C fX9_19 dX9_undo_29 (s_85 _) rfl rfl ?_
      refine r_iload_n (pc := 32) C dX9_undo_32 rfl ?_
      refine r_aload_n (pc := 33) C dX9_undo_33 rfl ?_
      refine r_getr (pc := 34) C fX9_31 dX9_undo_34 (s_85 _) rfl rfl ?_
      refine r_bipush (pc := 37) C (56) dX9_undo_37 (by decide) ?_
      refine r_aload_n (pc := 39) C dX9_undo_39 rfl ?_
      refine r_get (pc := 40) C fX9_158 dX9_undo_40 (s_85 _) rfl ?_
      refine r_imul (pc := 43) C dX9_undo_43 ?_
      refine r_iload_n (pc := 44) C dX9_undo_44 rfl ?_
      refine r_iadd (pc := 45) C dX9_undo_45 ?_
      refine q_iald (pc := 46) C ((56 * a) + i) dX9_undo_46 (s_93 _) (sn_93 _) (nI_addE (pk_mulE rfl ((fillM_ne (by decide)).trans hma)) rfl) (by omega) (by decide) ?_
      refine q_iast (pc := 47) C i dX9_undo_47 (s_89 _) (sn_89 _) rfl (by omega) (by decide) ?_
      refine r_iinc (pc := 48) C (nI (i + 1)) dX9_undo_48 rfl (nI_inc _) (by decide) rfl ?_
      refine r_goto (pc := 51) C 22 dX9_undo_51 (by decide) ?_
      refine ih (i + 1) _ (by omega) ?_
      exact fillM_step0 (fillM_ne (by decide))
set_option maxRecDepth 100000 in
set_option maxHeartbeats 4000000 in
theorem c_X9_undo {G : GG} {kn : Nat} {f : MM} {a : Nat} (ha : a ≤ 24) (hm : f 85 18 = nI a) : CI G mX9_undo 1 kn [.ref (G.1 + 85)] f (R_undo f a).1 (R_undo f a).2 := by
  refine Ct.of [some (.ref (G.1 + 85)), none] rfl (by decide +kernel) rfl (Nat.le_of_ble_eq_true rfl) rfl ?_
  intro X C
  refine r_aload_n (pc := 0) C dX9_undo_0 rfl ?_
  refine r_get (pc := 1) C fX9_158 dX9_undo_1 (s_85 _) rfl ?_
  refine r_if_ne (pc := 4) C 10 dX9_undo_4 (by decide) (fun c4 => ?_) (fun c4 => ?_)
  · have a0 : ¬ a = 0 := fun q => c4 (by rw [hm, q]; rfl)
    refine r_aload_n (pc := 10) C dX9_undo_10 rfl ?_
    refine r_dup (pc := 11) C dX9_undo_11 rfl ?_
    refine r_get (pc := 12) C fX9_158 dX9_undo_12 (s_85 _) rfl ?_
    refine r_iconst (pc := 15) C (1) dX9_undo_15 (by decide) ?_
    refine r_isub (pc := 16) C dX9_undo_16 ?_
    refine q_is (a - 1) (by rw [hm]; exact (pk_sub (b := 1) (by omega))) ?_
    refine r_put (pc := 17) C fX9_158 ftX9_18 dX9_undo_17 (s_85 _) rfl ?_
    refine r_iconst (pc := 20) C (0) dX9_undo_20 (by decide) ?_
    refine r_istore_n (pc := 21) C dX9_undo_21 (by decide) rfl ?_
    refine l_undo (g0 := u2 f 85 18 (nI (a - 1))) (a := a - 1) C (by omega) (by simp [u2]) ?_ 56 0 _ rfl fillM_0.symm
    intro g hg
    subst hg
    refine r_aload_n (pc := 54) C dX9_undo_54 rfl ?_
    refine r_get (pc := 55) C fX9_158 dX9_undo_55 (s_85 _) rfl ?_
    refine q_val (nI (a - 1)) (by rw [fillM_ne (by decide)]; simp [u2]) ?_
    refine q_iret (pc := 58) C dX9_undo_58 rfl ?_
    refine pr ?_
    rw [R_undo, if_neg a0]
    have e : (fun t => u2 f 85 18 (nI (a - 1)) 93 (56 * (a - 1) + t)) = (fun t => f 93 (56 * (a - 1) + t)) := by rw [u2_row (by decide)]
    rw [e]
  · have a0 : a = 0 := (nI_eq (by omega) (by decide)).mp (hm.symm.trans c4)
    refine r_ldc (pc := 7) C (-1000002) kX9_183 dX9_undo_7 ?_
    refine q_iret (pc := 9) C dX9_undo_9 rfl ?_
    exact pr (by simp [R_undo, a0])
def R_walker (f : MM) (n L g : Nat) (w q : Int32) : Int32 := if inR w n = true then (if q = 0 then f 89 (20 + tn w) else if q = 1 then f 89 (26 + tn w) else if q = 2 then f 89 (32 + tn w) else if q = 3 then f 89 (38 + tn w) else if q = 4 then f 89 (44 + tn w) else if q = 5 then (if g < L then takesS (f 89) (tn w) g else -1000000) else -1000001) else -1000001
set_option maxRecDepth 100000 in
set_option maxHeartbeats 4000000 in
theorem c_X9_walker {G : GG} {kn : Nat} {f : MM} {n L g : Nat} (hn : n ≤ 6) (hL : L ≤ 8) (hg : g ≤ L) (h13 : f 89 13 = nI n) (h8 : f 89 8 = nI L) (h9 : f 89 9 = nI g) {a b : Int32} : CI G mX9_walker 3 kn [.ref (G.1 + 85), .int a, .int b] f (R_walker f n L g a b) f := by
  refine Ct.of [some (.ref (G.1 + 85)), some (.int a), some (.int b)] rfl (by decide +kernel) rfl (Nat.le_of_ble_eq_true rfl) rfl ?_
  intro X C
  refine r_aload_n (pc := 0) C dX9_walker_0 rfl ?_
  refine r_iload_n (pc := 1) C dX9_walker_1 rfl ?_
  refine q_vIf (pc := 2) C kX9_197 dX9_walker_2 (c_X9_isWalker hn h13) (s_85 _) rfl rfl (Nat.le_of_ble_eq_true rfl) (by decide) ⟨by decide, by decide⟩ ?_
  refine r_if_ne (pc := 5) C 11 dX9_walker_5 (by decide) (fun c5 => ?_) (fun c5 => ?_)
  · replace c5 := b1_1 c5
    obtain ⟨i, hi, rfl⟩ := inR_of c5
    have ti : tn (nI i) = i := tn_nI (by omega)
    refine r_iload_n (pc := 11) C dX9_walker_11 rfl ?_
    refine r_top (fun x12 hx12 => ?_)
    rcases ts0_5 x12 with c12 | c12 | c12 | c12 | c12 | c12 | c12
    · refine r_tableOut (pc := 12) C 137 dX9_walker_12 c12 (by decide) ?_
      refine r_ldc (pc := 137) C (-1000001) kX9_76 dX9_walker_137 ?_
      refine q_iret (pc := 139) C dX9_walker_139 rfl ?_
      refine ⟨?_, rfl⟩
      subst hx12
      first | (subst c12; simp [R_walker, c5, ti]; done) | (simp [R_walker, c5, ti, tsne c12 (v := 0) (by decide), tsne c12 (v := 1) (by decide), tsne c12 (v := 2) (by decide), tsne c12 (v := 3) (by decide), tsne c12 (v := 4) (by decide), tsne c12 (v := 5) (by decide)]; done)
    · refine r_tableEq (pc := 12) C 52 (0) c12 dX9_walker_12 (by decide) (by decide) rfl (by decide) ?_
      refine r_aload_n (pc := 52) C dX9_walker_52 rfl ?_
      refine r_getr (pc := 53) C fX9_19 dX9_walker_53 (s_85 _) rfl rfl ?_
      refine r_bipush (pc := 56) C (20) dX9_walker_56 (by decide) ?_
      refine r_iload_n (pc := 58) C dX9_walker_58 rfl ?_
      refine r_iadd (pc := 59) C dX9_walker_59 ?_
      refine q_iald (pc := 60) C (20 + i) dX9_walker_60 (s_89 _) (sn_89 _) (nI_add 20 i) (by omega) (by decide) ?_
      refine q_iret (pc := 61) C dX9_walker_61 rfl ?_
      refine ⟨?_, rfl⟩
      subst hx12
      first | (subst c12; simp [R_walker, c5, ti]; done) | (simp [R_walker, c5, ti, tsne c12 (v := 0) (by decide), tsne c12 (v := 1) (by decide), tsne c12 (v := 2) (by decide), tsne c12 (v := 3) (by decide), tsne c12 (v := 4) (by decide), tsne c12 (v := 5) (by decide)]; done)
    · refine r_tableEq (pc := 12) C 62 (1) c12 dX9_walker_12 (by decide) (by decide) rfl (by decide) ?_
      refine r_aload_n (pc := 62) C dX9_walker_62 rfl ?_
      refine r_getr (pc := 63) C fX9_19 dX9_walker_63 (s_85 _) rfl rfl ?_
      refine r_bipush (pc := 66) C (26) dX9_walker_66 (by decide) ?_
      refine r_iload_n (pc := 68) C dX9_walker_68 rfl ?_
      refine r_iadd (pc := 69) C dX9_walker_69 ?_
      refine q_iald (pc := 70) C (26 + i) dX9_walker_70 (s_89 _) (sn_89 _) (nI_add 26 i) (by omega) (by decide) ?_
      refine q_iret (pc := 71) C dX9_walker_71 rfl ?_
      refine ⟨?_, rfl⟩
      subst hx12
      first | (subst c12; simp [R_walker, c5, ti]; done) | (simp [R_walker, c5, ti, tsne c12 (v := 0) (by decide), tsne c12 (v := 1) (by decide), tsne c12 (v := 2) (by decide), tsne c12 (v := 3) (by decide), tsne c12 (v := 4) (by decide), tsne c12 (v := 5) (by decide)]; done)
    · refine r_tableEq (pc := 12) C 72 (2) c12 dX9_walker_12 (by decide) (by decide) rfl (by decide) ?_
      refine r_aload_n (pc := 72) C dX9_walker_72 rfl ?_
      refine r_getr (pc := 73) C fX9_19 dX9_walker_73 (s_85 _) rfl rfl ?_
      refine r_bipush (pc := 76) C (32) dX9_walker_76 (by decide) ?_
      refine r_iload_n (pc := 78) C dX9_walker_78 rfl ?_
      refine r_iadd (pc := 79) C dX9_walker_79 ?_
      refine q_iald (pc := 80) C (32 + i) dX9_walker_80 (s_89 _) (sn_89 _) (nI_add 32 i) (by omega) (by decide) ?_
      refine q_iret (pc := 81) C dX9_walker_81 rfl ?_
      refine ⟨?_, rfl⟩
      subst hx12
      first | (subst c12; simp [R_walker, c5, ti]; done) | (simp [R_walker, c5, ti, tsne c12 (v := 0) (by decide), tsne c12 (v := 1) (by decide), tsne c12 (v := 2) (by decide), tsne c12 (v := 3) (by decide), tsne c12 (v := 4) (by decide), tsne c12 (v := 5) (by decide)]; done)
    · refine r_tableEq (pc := 12) C 82 (3) c12 dX9_walker_12 (by decide) (by decide) rfl (by decide) ?_
      refine r_aload_n (pc := 82) C dX9_walker_82 rfl ?_
      refine r_getr (pc := 83) C fX9_19 dX9_walker_83 (s_85 _) rfl rfl ?_
      refine r_bipush (pc := 86) C (38) dX9_walker_86 (by decide) ?_
      refine r_iload_n (pc := 88) C dX9_walker_88 rfl ?_
      refine r_iadd (pc := 89) C dX9_walker_89 ?_
      refine q_iald (pc := 90) C (38 + i) dX9_walker_90 (s_89 _) (sn_89 _) (nI_add 38 i) (by omega) (by decide) ?_
      refine q_iret (pc := 91) C dX9_walker_91 rfl ?_
      refine ⟨?_, rfl⟩
      subst hx12
      first | (subst c12; simp [R_walker, c5, ti]; done) | (simp [R_walker, c5, ti, tsne c12 (v := 0) (by decide), tsne c12 (v := 1) (by decide), tsne c12 (v := 2) (by decide), tsne c12 (v := 3) (by decide), tsne c12 (v := 4) (by decide), tsne c12 (v := 5) (by decide)]; done)
    · refine r_tableEq (pc := 12) C 92 (4) c12 dX9_walker_12 (by decide) (by decide) rfl (by decide) ?_
      refine r_aload_n (pc := 92) C dX9_walker_92 rfl ?_
      refine r_getr (pc := 93) C fX9_19 dX9_walker_93 (s_85 _) rfl rfl ?_
      refine r_bipush (pc := 96) C (44) dX9_walker_96 (by decide) ?_
      refine r_iload_n (pc := 98) C dX9_walker_98 rfl ?_
      refine r_iadd (pc := 99) C dX9_walker_99 ?_
      refine q_iald (pc := 100) C (44 + i) dX9_walker_100 (s_89 _) (sn_89 _) (nI_add 44 i) (by omega) (by decide) ?_
      refine q_iret (pc := 101) C dX9_walker_101 rfl ?_
      refine ⟨?_, rfl⟩
      subst hx12
      first | (subst c12; simp [R_walker, c5, ti]; done) | (simp [R_walker, c5, ti, tsne c12 (v := 0) (by decide), tsne c12 (v := 1) (by decide), tsne c12 (v := 2) (by decide), tsne c12 (v := 3) (by decide), tsne c12 (v := 4) (by decide), tsne c12 (v := 5) (by decide)]; done)
    · refine r_tableEq (pc := 12) C 102 (5) c12 dX9_walker_12 (by decide) (by decide) rfl (by decide) ?_
      refine r_aload_n (pc := 102) C dX9_walker_102 rfl ?_
      refine r_getr (pc := 103) C fX9_19 dX9_walker_103 (s_85 _) rfl rfl ?_
      refine r_bipush (pc := 106) C (9) dX9_walker_106 (by decide) ?_
      refine q_iald (pc := 108) C 9 dX9_walker_108 (s_89 _) (sn_89 _) rfl (by omega) (by decide) ?_
      refine r_aload_n (pc := 109) C dX9_walker_109 rfl ?_
      refine r_getr (pc := 110) C fX9_19 dX9_walker_110 (s_85 _) rfl rfl ?_
      refine r_bipush (pc := 113) C (8) dX9_walker_113 (by decide) ?_
      refine q_iald (pc := 115) C 8 dX9_walker_115 (s_89 _) (sn_89 _) rfl (by omega) (by decide) ?_
      refine q_ge (pc := 116) C g L 134 h9 h8 (by omega) (by omega) dX9_walker_116 (by decide) (fun c116 => ?_) (fun c116 => ?_)
      · have e116 : ¬ g < L := by omega
        refine r_ldc (pc := 134) C (-1000000) kX9_200 dX9_walker_134 ?_
        refine q_iret (pc := 136) C dX9_walker_136 rfl ?_
        refine ⟨?_, rfl⟩
        subst hx12
        first | (subst c12; simp [R_walker, c5, ti, e116]; done) | (simp [R_walker, c5, ti, e116, tsne c12 (v := 0) (by decide), tsne c12 (v := 1) (by decide), tsne c12 (v := 2) (by decide), tsne c12 (v := 3) (by decide), tsne c12 (v := 4) (by decide), tsne c12 (v := 5) (by decide)]; done)
      · refine r_aload_n (pc := 119) C dX9_walker_119 rfl ?_
        refine r_iload_n (pc := 120) C dX9_walker_120 rfl ?_
        refine r_aload_n (pc := 121) C dX9_walker_121 rfl ?_
        refine r_getr (pc := 122) C fX9_19 dX9_walker_122 (s_85 _) rfl rfl ?_
        refine r_bipush (pc := 125) C (9) dX9_walker_125 (by decide) ?_
        refine q_iald (pc := 127) C 9 dX9_walker_127 (s_89 _) (sn_89 _) rfl (by omega) (by decide) ?_
        refine q_is g h9 ?_
        refine q_vIf (pc := 128) C kX9_170 dX9_walker_128 (c_X9_takesFor (w := i) (leg := g) (by omega) (by omega)) (s_85 _) rfl rfl (Nat.le_of_ble_eq_true rfl) (by decide) ⟨by decide, by decide⟩ ?_
        refine r_goto (pc := 131) C 136 dX9_walker_131 (by decide) ?_
        refine q_iret (pc := 136) C dX9_walker_136 rfl ?_
        refine ⟨?_, rfl⟩
        subst hx12
        first | (subst c12; simp [R_walker, c5, ti, c116]; done) | (simp [R_walker, c5, ti, c116, tsne c12 (v := 0) (by decide), tsne c12 (v := 1) (by decide), tsne c12 (v := 2) (by decide), tsne c12 (v := 3) (by decide), tsne c12 (v := 4) (by decide), tsne c12 (v := 5) (by decide)]; done)
  · replace c5 := b1_0 c5
    refine r_ldc (pc := 8) C (-1000001) kX9_76 dX9_walker_8 ?_
    refine q_iret (pc := 10) C dX9_walker_10 rfl ?_
    exact ⟨by simp [R_walker, c5], rfl⟩
def R_leg (f : MM) (L : Nat) (l : Int32) : Int32 := if inR l L = true then f 89 (tn l) else -1000001
def R_mends (r : Int32) : Int32 := if inR r 1000 = true then mendS r else -1000001
set_option maxRecDepth 100000 in
set_option maxHeartbeats 4000000 in
theorem c_X9_leg {G : GG} {kn : Nat} {f : MM} {L : Nat} (hL : L ≤ 8) (h8 : f 89 8 = nI L) {a : Int32} : CI G mX9_leg 2 kn [.ref (G.1 + 85), .int a] f (R_leg f L a) f := by
  refine Ct.of [some (.ref (G.1 + 85)), some (.int a)] rfl (by decide +kernel) rfl (Nat.le_of_ble_eq_true rfl) rfl ?_
  intro X C
  refine r_iload_n (pc := 0) C dX9_leg_0 rfl ?_
  refine r_i2l (pc := 1) C dX9_leg_1 ?_
  refine r_lconst (pc := 2) C (0) dX9_leg_2 (by decide) ?_
  refine r_aload_n (pc := 3) C dX9_leg_3 rfl ?_
  refine r_getr (pc := 4) C fX9_19 dX9_leg_4 (s_85 _) rfl rfl ?_
  refine r_bipush (pc := 7) C (8) dX9_leg_7 (by decide) ?_
  refine q_iald (pc := 9) C 8 dX9_leg_9 (s_89 _) (sn_89 _) rfl (by omega) (by decide) ?_
  refine r_iconst (pc := 10) C (1) dX9_leg_10 (by decide) ?_
  refine r_isub (pc := 11) C dX9_leg_11 ?_
  refine r_i2l (pc := 12) C dX9_leg_12 ?_
  refine q_sIf (pc := 13) C kX9_66 dX9_leg_13 (c_in0 (hi := f 89 8 - 1) L rfl rfl (by rw [h8]; exact nI_m1 (by omega))) rfl rfl (Nat.le_of_ble_eq_true rfl) (by decide) ⟨by decide, by decide⟩ ?_
  refine r_if_eq (pc := 16) C 28 dX9_leg_16 (by decide) (fun c16 => ?_) (fun c16 => ?_)
  · replace c16 := b1_0 c16
    refine r_ldc (pc := 28) C (-1000001) kX9_76 dX9_leg_28 ?_
    refine q_iret (pc := 30) C dX9_leg_30 rfl ?_
    exact ⟨by simp [R_leg, c16], rfl⟩
  · replace c16 := b1_1 c16
    obtain ⟨i, hi, rfl⟩ := inR_of c16
    have ti : tn (nI i) = i := tn_nI (by omega)
    refine r_aload_n (pc := 19) C dX9_leg_19 rfl ?_
    refine r_getr (pc := 20) C fX9_19 dX9_leg_20 (s_85 _) rfl rfl ?_
    refine r_iload_n (pc := 23) C dX9_leg_23 rfl ?_
    refine q_iald (pc := 24) C i dX9_leg_24 (s_89 _) (sn_89 _) rfl (by omega) (by decide) ?_
    refine r_goto (pc := 25) C 30 dX9_leg_25 (by decide) ?_
    refine q_iret (pc := 30) C dX9_leg_30 rfl ?_
    exact ⟨by simp [R_leg, c16, ti], rfl⟩
set_option maxRecDepth 100000 in
set_option maxHeartbeats 4000000 in
theorem c_X9_mends {G : GG} {kn : Nat} {f : MM} {a : Int32} : CI G mX9_mends 2 kn [.ref (G.1 + 85), .int a] f (R_mends a) f := by
  refine Ct.of [some (.ref (G.1 + 85)), some (.int a)] rfl (by decide +kernel) rfl (Nat.le_of_ble_eq_true rfl) rfl ?_
  intro X C
  refine r_iload_n (pc := 0) C dX9_mends_0 rfl ?_
  refine r_i2l (pc := 1) C dX9_mends_1 ?_
  refine r_lconst (pc := 2) C (0) dX9_mends_2 (by decide) ?_
  refine r_ldc2 (pc := 3) C (999) kX9_201 dX9_mends_3 ?_
  refine q_sIf (pc := 6) C kX9_66 dX9_mends_6 (c_in0 (hi := 999) 1000 rfl (by decide) (by decide)) rfl rfl (Nat.le_of_ble_eq_true rfl) (by decide) ⟨by decide, by decide⟩ ?_
  refine r_if_eq (pc := 9) C 19 dX9_mends_9 (by decide) (fun c9 => ?_) (fun c9 => ?_)
  · replace c9 := b1_0 c9
    refine r_ldc (pc := 19) C (-1000001) kX9_76 dX9_mends_19 ?_
    refine q_iret (pc := 21) C dX9_mends_21 rfl ?_
    exact ⟨by simp [R_mends, c9], rfl⟩
  · replace c9 := b1_1 c9
    refine r_iload_n (pc := 12) C dX9_mends_12 rfl ?_
    refine q_sIf (pc := 13) C kX9_173 dX9_mends_13 (c_X9_mendBy) rfl rfl (Nat.le_of_ble_eq_true rfl) (by decide) ⟨by decide, by decide⟩ ?_
    refine r_goto (pc := 16) C 21 dX9_mends_16 (by decide) ?_
    refine q_iret (pc := 21) C dX9_mends_21 rfl ?_
    exact ⟨by simp [R_mends, c9], rfl⟩
set_option maxRecDepth 100000 in
set_option maxHeartbeats 4000000 in
theorem l_putAside {X : XT} {G : GG} {kn : Nat} {Q : State → Prop} {f : MM} (C : Cx X G mX9_putAside 1 0 0 (NN kn))  (K : ∀ g : MM, (fun i g => g = fillM f 94 0 i (f 89)) 56 g → Vw X G mX9_putAside.2.2.2.1 0 0 Q (NN kn) (shF kn) g 26 [some (.ref (G.1 + 85)), some (.int (nI 56))] []) : ∀ (m i : Nat) (g : MM), i + m = 56 → (fun i g => g = fillM f 94 0 i (f 89)) i g → Vw X G mX9_putAside.2.2.2.1 0 0 Q (NN kn) (shF kn) g 2 [some (.ref (G.1 + 85)), some (.int (nI i))] [] := by
  intro m
  induction m with
  | zero =>
    intro i g hm hg
    obtain rfl : 56 = i := by omega
    subst hg
    refine r_iload_n (pc := 2) C dX9_putAside_2 rfl ?_
    refine r_bipush (pc := 3) C (56) dX9_putAside_3 (by decide) ?_
    refine q_ge (pc := 5) C 56 56 26 rfl rfl (by omega) (by omega) dX9_putAside_5 (by decide) (fun c5 => ?_) (fun c5 => ?_)
    · exact K _ rfl
    · exact absurd c5 (by omega)
  | succ m ih =>
    intro i g hm hg
    subst hg
    refine r_iload_n (pc := 2) C dX9_putAside_2 rfl ?_
    refine r_bipush (pc := 3) C (56) dX9_putAside_3 (by decide) ?_
    refine q_ge (pc := 5) C i 56 26 rfl rfl (by omega) (by omega) dX9_putAside_5 (by decide) (fun c5 => ?_) (fun c5 => ?_)
    · exact absurd c5 (by omega)
    · refine r_aload_n (pc := 8) C dX9_putAside_8 rfl ?_
      refine r_getr (pc := 9) C fX9_34 dX9_putAside_9 (s_85 _) rfl rfl ?_
      refine r_iload_n (pc := 12) C dX9_putAside_12 rfl ?_
      refine r_aload_n (pc := 13) C dX9_putAside_13 rfl ?_
      refine r_getr (pc := 14) C fX9_19 dX9_putAside_14 (s_85 _) rfl rfl ?_
      refine r_iload_n (pc := 17) C dX9_putAside_17 rfl ?_
      refine q_iald (pc := 18) C i dX9_putAside_18 (s_89 _) (sn_89 _) rfl (by omega) (by decide) ?_
      refine q_iast (pc := 19) C i dX9_putAside_19 (s_94 _) (sn_94 _) rfl (by omega) (by decide) ?_
      refine r_iinc (pc := 20) C (nI (i + 1)) dX9_putAside_20 rfl (nI_inc _) (by decide) rfl ?_
      refine r_goto (pc := 23) C 2 dX9_putAside_23 (by decide) ?_
      refine ih (i + 1) _ (by omega) ?_
      exact fillM_step0 (fillM_ne (by decide))
set_option maxRecDepth 100000 in
set_option maxHeartbeats 4000000 in
theorem c_X9_putAside {G : GG} {kn : Nat} {f : MM}  : CV G mX9_putAside 1 kn [.ref (G.1 + 85)] f (fillM f 94 0 56 (f 89)) := by
  refine Ct.of [some (.ref (G.1 + 85)), none] rfl (by decide +kernel) rfl (Nat.le_of_ble_eq_true rfl) rfl ?_
  intro X C
  refine r_iconst (pc := 0) C (0) dX9_putAside_0 (by decide) ?_
  refine r_istore_n (pc := 1) C dX9_putAside_1 (by decide) rfl ?_
  refine l_putAside (f := f) C ?_ 56 0 _ rfl fillM_0.symm
  intro g hg
  subst hg
  refine q_vret (pc := 26) C dX9_putAside_26 rfl ?_
  rfl
set_option maxRecDepth 100000 in
set_option maxHeartbeats 4000000 in
theorem l_takeBack {X : XT} {G : GG} {kn : Nat} {Q : State → Prop} {f : MM} (C : Cx X G mX9_takeBack 1 0 0 (NN kn))  (K : ∀ g : MM, (fun i g => g = fillM f 89 0 i (f 94)) 56 g → Vw X G mX9_takeBack.2.2.2.1 0 0 Q (NN kn) (shF kn) g 26 [some (.ref (G.1 + 85)), some (.int (nI 56))] []) : ∀ (m i : Nat) (g : MM), i + m = 56 → (fun i g => g = fillM f 89 0 i (f 94)) i g → Vw X G mX9_takeBack.2.2.2.1 0 0 Q (NN kn) (shF kn) g 2 [some (.ref (G.1 + 85)), some (.int (nI i))] [] := by
  intro m
  induction m with
  | zero =>
    intro i g hm hg
    obtain rfl : 56 = i := by omega
    subst hg
    refine r_iload_n (pc := 2) C dX9_takeBack_2 rfl ?_
    refine r_bipush (pc := 3) C (56) dX9_takeBack_3 (by decide) ?_
    refine q_ge (pc := 5) C 56 56 26 rfl rfl (by omega) (by omega) dX9_takeBack_5 (by decide) (fun c5 => ?_) (fun c5 => ?_)
    · exact K _ rfl
    · exact absurd c5 (by omega)
  | succ m ih =>
    intro i g hm hg
    subst hg
    refine r_iload_n (pc := 2) C dX9_takeBack_2 rfl ?_
    refine r_bipush (pc := 3) C (56) dX9_takeBack_3 (by decide) ?_
    refine q_ge (pc := 5) C i 56 26 rfl rfl (by omega) (by omega) dX9_takeBack_5 (by decide) (fun c5 => ?_) (fun c5 => ?_)
    · exact absurd c5 (by omega)
    · refine r_aload_n (pc := 8) C dX9_takeBack_8 rfl ?_
      refine r_getr (pc := 9) C fX9_19 dX9_takeBack_9 (s_85 _) rfl rfl ?_
      refine r_iload_n (pc := 12) C dX9_takeBack_12 rfl ?_
      refine r_aload_n (pc := 13) C dX9_takeBack_13 rfl ?_
      refine r_getr (pc := 14) C fX9_34 dX9_takeBack_14 (s_85 _) rfl rfl ?_
      refine r_iload_n (pc := 17) C dX9_takeBack_17 rfl ?_
      refine q_iald (pc := 18) C i dX9_takeBack_18 (s_94 _) (sn_94 _) rfl (by omega) (by decide) ?_
      refine q_iast (pc := 19) C i dX9_takeBack_19 (s_89 _) (sn_89 _) rfl (by omega) (by decide) ?_
      refine r_iinc (pc := 20) C (nI (i + 1)) dX9_takeBack_20 rfl (nI_inc _) (by decide) rfl ?_
      refine r_goto (pc := 23) C 2 dX9_takeBack_23 (by decide) ?_
      refine ih (i + 1) _ (by omega) ?_
      exact fillM_step0 (fillM_ne (by decide))
set_option maxRecDepth 100000 in
set_option maxHeartbeats 4000000 in
theorem c_X9_takeBack {G : GG} {kn : Nat} {f : MM}  : CV G mX9_takeBack 1 kn [.ref (G.1 + 85)] f (fillM f 89 0 56 (f 94)) := by
  refine Ct.of [some (.ref (G.1 + 85)), none] rfl (by decide +kernel) rfl (Nat.le_of_ble_eq_true rfl) rfl ?_
  intro X C
  refine r_iconst (pc := 0) C (0) dX9_takeBack_0 (by decide) ?_
  refine r_istore_n (pc := 1) C dX9_takeBack_1 (by decide) rfl ?_
  refine l_takeBack (f := f) C ?_ 56 0 _ rfl fillM_0.symm
  intro g hg
  subst hg
  refine q_vret (pc := 26) C dX9_takeBack_26 rfl ?_
  rfl
def hutI (n L : Nat) (s : Int32) : Nat → Nat → (Nat → Int32) → (Nat → Int32)
  | 0, _, st => st
  | m + 1, g, st => hutI n L s m (g + 1) (goS n L g s st)
theorem hutI_lo {n L k : Nat} {s : Int32} (h : k < 32) (h9 : k ≠ 9) : ∀ (m g : Nat) (st : Nat → Int32), hutI n L s m g st k = st k := by
  intro m
  induction m with
  | zero => intro g st; rfl
  | succ m ih => intro g st; exact (ih _ _).trans (goS_lo h h9)
theorem hutI_hi {n L k : Nat} {s : Int32} (h : 50 ≤ k) (hn : n ≤ 6) : ∀ (m g : Nat) (st : Nat → Int32), hutI n L s m g st k = st k := by
  intro m
  induction m with
  | zero => intro g st; rfl
  | succ m ih => intro g st; exact (ih _ _).trans (goS_hi h hn)
def lastI (st : Nat → Int32) (s : Int32) : Nat → Int32
  | 0 => 0
  | k + 1 => if hasB s k = true then (if st (38 + k) ≤ lastI st s k then lastI st s k else st (38 + k)) else lastI st s k
set_option maxRecDepth 100000 in
set_option maxHeartbeats 4000000 in
theorem l_toHut1 {X : XT} {G : GG} {kn : Nat} {Q : State → Prop} {f : MM} {n L : Nat} {s : Int32} {S0 : Nat → Int32} (C : Cx X G mX9_toHut 5 0 0 (NN kn)) (hn : n ≤ 6) (hL : L ≤ 8) (hs : f 85 16 = s) (K : Vw X G mX9_toHut.2.2.2.1 0 0 Q (NN kn) (shF kn) (va_up f 89 S0) 29 [some (.ref (G.1 + 85)), some (.int s), none, none] []) : ∀ (m g : Nat) (st : Nat → Int32), g + m = L → st 13 = nI n → st 8 = nI L → st 9 = nI g → hutI n L s m g st = S0 → Vw X G mX9_toHut.2.2.2.1 0 0 Q (NN kn) (shF kn) (va_up f 89 st) 5 [some (.ref (G.1 + 85)), some (.int s), none, none] [] := by
  intro m
  induction m with
  | zero =>
    intro g st hm h13 h8 h9 hS
    obtain rfl : L = g := by omega
    cases hS
    refine r_aload_n (pc := 5) C dX9_toHut_5 rfl ?_
    refine r_getr (pc := 6) C fX9_19 dX9_toHut_6 (s_85 _) rfl rfl ?_
    refine r_bipush (pc := 9) C (9) dX9_toHut_9 (by decide) ?_
    refine q_iald (pc := 11) C 9 dX9_toHut_11 (s_89 _) (sn_89 _) rfl (by omega) (by decide) ?_
    refine r_aload_n (pc := 12) C dX9_toHut_12 rfl ?_
    refine r_getr (pc := 13) C fX9_19 dX9_toHut_13 (s_85 _) rfl rfl ?_
    refine r_bipush (pc := 16) C (8) dX9_toHut_16 (by decide) ?_
    refine q_iald (pc := 18) C 8 dX9_toHut_18 (s_89 _) (sn_89 _) rfl (by omega) (by decide) ?_
    refine q_ge (pc := 19) C L L 29 (by rw [up_at]; exact h9) (by rw [up_at]; exact h8) (by omega) (by omega) dX9_toHut_19 (by decide) (fun c19 => ?_) (fun c19 => ?_)
    · exact K
    · exact absurd c19 (by omega)
  | succ m ih =>
    intro g st hm h13 h8 h9 hS
    refine r_aload_n (pc := 5) C dX9_toHut_5 rfl ?_
    refine r_getr (pc := 6) C fX9_19 dX9_toHut_6 (s_85 _) rfl rfl ?_
    refine r_bipush (pc := 9) C (9) dX9_toHut_9 (by decide) ?_
    refine q_iald (pc := 11) C 9 dX9_toHut_11 (s_89 _) (sn_89 _) rfl (by omega) (by decide) ?_
    refine r_aload_n (pc := 12) C dX9_toHut_12 rfl ?_
    refine r_getr (pc := 13) C fX9_19 dX9_toHut_13 (s_85 _) rfl rfl ?_
    refine r_bipush (pc := 16) C (8) dX9_toHut_16 (by decide) ?_
    refine q_iald (pc := 18) C 8 dX9_toHut_18 (s_89 _) (sn_89 _) rfl (by omega) (by decide) ?_
    refine q_ge (pc := 19) C g L 29 (by rw [up_at]; exact h9) (by rw [up_at]; exact h8) (by omega) (by omega) dX9_toHut_19 (by decide) (fun c19 => ?_) (fun c19 => ?_)
    · exact absurd c19 (by omega)
    · refine r_aload_n (pc := 22) C dX9_toHut_22 rfl ?_
      refine q_vVf (pc := 23) C kX9_190 dX9_toHut_23 (c_X9_goOn (n := n) (L := L) (g := g) hn hL (by omega) (by rw [up_at]; exact h13) (by rw [up_at]; exact h8) (by rw [up_at]; exact h9)) (s_85 _) rfl rfl (Nat.le_of_ble_eq_true rfl) (by decide) ⟨by decide, by decide⟩ ?_
      rw [up_up, up_at, up_ne (by decide), hs]
      refine r_goto (pc := 26) C 5 dX9_toHut_26 (by decide) ?_
      exact ih (g + 1) _ (by omega) ((goS_lo (by decide) (by decide)).trans h13) ((goS_lo (by decide) (by decide)).trans h8) goS_9 hS
set_option maxRecDepth 100000 in
set_option maxHeartbeats 4000000 in
theorem l_toHut2 {X : XT} {G : GG} {kn : Nat} {Q : State → Prop} {f : MM} {n : Nat} {s : Int32} (C : Cx X G mX9_toHut 5 0 0 (NN kn)) (hn : n ≤ 6) (h13 : f 89 13 = nI n) (K : Vw X G mX9_toHut.2.2.2.1 0 0 Q (NN kn) (shF kn) f 85 [some (.ref (G.1 + 85)), some (.int s), some (.int (lastI (f 89) s n)), some (.int (nI n))] []) : ∀ (m i : Nat), i + m = n → Vw X G mX9_toHut.2.2.2.1 0 0 Q (NN kn) (shF kn) f 33 [some (.ref (G.1 + 85)), some (.int s), some (.int (lastI (f 89) s i)), some (.int (nI i))] [] := by
  intro m
  induction m with
  | zero =>
    intro i hm
    obtain rfl : n = i := by omega
    refine r_iload_n (pc := 33) C dX9_toHut_33 rfl ?_
    refine r_aload_n (pc := 34) C dX9_toHut_34 rfl ?_
    refine r_getr (pc := 35) C fX9_19 dX9_toHut_35 (s_85 _) rfl rfl ?_
    refine r_bipush (pc := 38) C (13) dX9_toHut_38 (by decide) ?_
    refine q_iald (pc := 40) C 13 dX9_toHut_40 (s_89 _) (sn_89 _) rfl (by omega) (by decide) ?_
    refine q_ge (pc := 41) C n n 85 rfl h13 (by omega) (by omega) dX9_toHut_41 (by decide) (fun c41 => ?_) (fun c41 => ?_)
    · exact K
    · exact absurd c41 (by omega)
  | succ m ih =>
    intro i hm
    have es : lastI (f 89) s (i + 1) = if hasB s i = true then (if f 89 (38 + i) ≤ lastI (f 89) s i then lastI (f 89) s i else f 89 (38 + i)) else lastI (f 89) s i := rfl
    refine r_iload_n (pc := 33) C dX9_toHut_33 rfl ?_
    refine r_aload_n (pc := 34) C dX9_toHut_34 rfl ?_
    refine r_getr (pc := 35) C fX9_19 dX9_toHut_35 (s_85 _) rfl rfl ?_
    refine r_bipush (pc := 38) C (13) dX9_toHut_38 (by decide) ?_
    refine q_iald (pc := 40) C 13 dX9_toHut_40 (s_89 _) (sn_89 _) rfl (by omega) (by decide) ?_
    refine q_ge (pc := 41) C i n 85 rfl h13 (by omega) (by omega) dX9_toHut_41 (by decide) (fun c41 => ?_) (fun c41 => ?_)
    · exact absurd c41 (by omega)
    · refine r_iload_n (pc := 44) C dX9_toHut_44 rfl ?_
      refine r_iload_n (pc := 45) C dX9_toHut_45 rfl ?_
      refine q_sIf (pc := 46) C kX9_164 dX9_toHut_46 (c_X9_has rfl) rfl rfl (Nat.le_of_ble_eq_true rfl) (by decide) ⟨by decide, by decide⟩ ?_
      refine r_if_eq (pc := 49) C 77 dX9_toHut_49 (by decide) (fun c49 => ?_) (fun c49 => ?_)
      · replace c49 := b1_0 c49
        refine r_iload_n (pc := 77) C dX9_toHut_77 rfl ?_
        refine r_istore_n (pc := 78) C dX9_toHut_78 (by decide) rfl ?_
        refine r_iinc (pc := 79) C (nI (i + 1)) dX9_toHut_79 rfl (nI_inc _) (by decide) rfl ?_
        refine r_goto (pc := 82) C 33 dX9_toHut_82 (by decide) ?_
        have h := ih (i + 1) (by omega)
        rw [es] at h
        simp only [c49, if_true, if_false, Bool.false_eq_true] at h
        exact h
      · replace c49 := b1_1 c49
        refine r_aload_n (pc := 52) C dX9_toHut_52 rfl ?_
        refine r_getr (pc := 53) C fX9_19 dX9_toHut_53 (s_85 _) rfl rfl ?_
        refine r_bipush (pc := 56) C (38) dX9_toHut_56 (by decide) ?_
        refine r_iload_n (pc := 58) C dX9_toHut_58 rfl ?_
        refine r_iadd (pc := 59) C dX9_toHut_59 ?_
        refine q_iald (pc := 60) C (38 + i) dX9_toHut_60 (s_89 _) (sn_89 _) (nI_add 38 i) (by omega) (by decide) ?_
        refine r_iload_n (pc := 61) C dX9_toHut_61 rfl ?_
        refine r_icmp_le (pc := 62) C 77 dX9_toHut_62 (by decide) (fun c62 => ?_) (fun c62 => ?_)
        · refine r_iload_n (pc := 77) C dX9_toHut_77 rfl ?_
          refine r_istore_n (pc := 78) C dX9_toHut_78 (by decide) rfl ?_
          refine r_iinc (pc := 79) C (nI (i + 1)) dX9_toHut_79 rfl (nI_inc _) (by decide) rfl ?_
          refine r_goto (pc := 82) C 33 dX9_toHut_82 (by decide) ?_
          have h := ih (i + 1) (by omega)
          rw [es] at h
          simp only [c49, c62, if_true, if_false, Bool.false_eq_true] at h
          exact h
        · refine r_aload_n (pc := 65) C dX9_toHut_65 rfl ?_
          refine r_getr (pc := 66) C fX9_19 dX9_toHut_66 (s_85 _) rfl rfl ?_
          refine r_bipush (pc := 69) C (38) dX9_toHut_69 (by decide) ?_
          refine r_iload_n (pc := 71) C dX9_toHut_71 rfl ?_
          refine r_iadd (pc := 72) C dX9_toHut_72 ?_
          refine q_iald (pc := 73) C (38 + i) dX9_toHut_73 (s_89 _) (sn_89 _) (nI_add 38 i) (by omega) (by decide) ?_
          refine r_goto (pc := 74) C 78 dX9_toHut_74 (by decide) ?_
          refine r_istore_n (pc := 78) C dX9_toHut_78 (by decide) rfl ?_
          refine r_iinc (pc := 79) C (nI (i + 1)) dX9_toHut_79 rfl (nI_inc _) (by decide) rfl ?_
          refine r_goto (pc := 82) C 33 dX9_toHut_82 (by decide) ?_
          have h := ih (i + 1) (by omega)
          rw [es] at h
          simp only [c49, c62, if_true, if_false, Bool.false_eq_true] at h
          exact h
set_option maxRecDepth 100000 in
set_option maxHeartbeats 4000000 in
theorem c_X9_toHut {G : GG} {kn : Nat} {f : MM} {n L g : Nat} {s : Int32} (hn : n ≤ 6) (hL : L ≤ 8) (hg : g ≤ L) (h13 : f 89 13 = nI n) (h8 : f 89 8 = nI L) (h9 : f 89 9 = nI g) : CI G mX9_toHut 5 kn [.ref (G.1 + 85), .int s] f (lastI (hutI n L s (L - g) g (f 89)) s n) (va_up (u2 f 85 16 s) 89 (hutI n L s (L - g) g (f 89))) := by
  refine Ct.of [some (.ref (G.1 + 85)), some (.int s), none, none] rfl (by decide +kernel) rfl (Nat.le_of_ble_eq_true rfl) rfl ?_
  intro X C
  refine r_aload_n (pc := 0) C dX9_toHut_0 rfl ?_
  refine r_iload_n (pc := 1) C dX9_toHut_1 rfl ?_
  refine r_put (pc := 2) C fX9_161 ftX9_16 dX9_toHut_2 (s_85 _) rfl ?_
  refine q_f (f' := va_up (u2 f 85 16 s) 89 (f 89)) (by rw [← u2_row (g := f) (c := 85) (b := 16) (v := s) (by decide : 89 ≠ 85), up_id]) ?_
  refine l_toHut1 C hn hL (by simp [u2]) ?_ (L - g) g (f 89) (by omega) h13 h8 h9 rfl
  refine r_iconst (pc := 29) C (0) dX9_toHut_29 (by decide) ?_
  refine r_istore_n (pc := 30) C dX9_toHut_30 (by decide) rfl ?_
  refine r_iconst (pc := 31) C (0) dX9_toHut_31 (by decide) ?_
  refine r_istore_n (pc := 32) C dX9_toHut_32 (by decide) rfl ?_
  refine v_drop _ (by repeat (first | exact trivial | exact rfl | constructor)) (l_toHut2 (n := n) C hn (by rw [up_at, hutI_lo (by decide) (by decide)]; exact h13) ?_ n 0 (by omega))
  refine r_iload_n (pc := 85) C dX9_toHut_85 rfl ?_
  refine q_iret (pc := 86) C dX9_toHut_86 rfl ?_
  exact ⟨by rw [up_at], rfl⟩
