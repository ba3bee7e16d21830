/-! TEXTS: tokens; the reference's way to them -/
def dig (c : Int32) : Bool := decide (48 ≤ c ∧ c ≤ 57)
def sgn (c : Int32) : Bool := decide (97 ≤ c ∧ c ≤ 122) || decide (c = 44) || decide (c = 59)
/-- where the figures end that begin at p -/
def dE (tp : Nat → Int32) (len : Nat) : Nat → Nat → Nat
  | 0, p => p
  | m + 1, p => if p < len ∧ dig (tp p) = true then dE tp len m (p + 1) else p
def dEnd (tp : Nat → Int32) (len p : Nat) : Nat := dE tp len (len - p) p
def vC (tp : Nat → Int32) (p : Nat) : Nat → Int32
  | 0 => 0
  | k + 1 => 10 * vC tp p k + tp (p + k) - 48
def vR (tp : Nat → Int32) (p : Nat) : Nat → Int32
  | 0 => 0
  | k + 1 => if vR tp p k ≤ 999 then 10 * vR tp p k + tp (p + k) - 48 else vR tp p k
/-- what stands at p: 3 the end, 2 a number, 1 a letter or a sign, 0 none -/
def knd (tp : Nat → Int32) (len p : Nat) : Nat := if len ≤ p then 3 else if dig (tp p) = true then (if dEnd tp len p - p ≤ 3 then 2 else 0) else if sgn (tp p) = true then 1 else 0
def nx (tp : Nat → Int32) (len p : Nat) : Nat := if len ≤ p then p else if dig (tp p) = true then dEnd tp len p else p + 1
def vl (tp : Nat → Int32) (len p : Nat) : Int32 := if dig (tp p) = true then vC tp p (dEnd tp len p - p) else tp p
theorem dE_run {tp : Nat → Int32} {len : Nat} : ∀ {i q m : Nat}, (∀ t, t < i → q + t < len ∧ dig (tp (q + t)) = true) → (len ≤ q + i ∨ dig (tp (q + i)) = false) → i ≤ m → dE tp len m q = q + i := by
  intro i
  induction i with
  | zero =>
    intro q m _ h2 _
    cases m with
    | zero => rfl
    | succ m =>
      show (if q < len ∧ dig (tp q) = true then dE tp len m (q + 1) else q) = q + 0
      rw [if_neg]
      · rfl
      · intro h
        rcases h2 with h2 | h2
        · omega
        · rw [Nat.add_zero] at h2; rw [h2] at h; exact absurd h.2 (by decide)
  | succ i ih =>
    intro q m h1 h2 hm
    cases m with
    | zero => omega
    | succ m =>
      have h0 := h1 0 (by omega)
      show (if q < len ∧ dig (tp q) = true then dE tp len m (q + 1) else q) = q + (i + 1)
      rw [if_pos (by simpa using h0), ih (fun t ht => by have := h1 (t + 1) (by omega); rwa [show q + (t + 1) = q + 1 + t by omega] at this) (by rwa [show q + (i + 1) = q + 1 + i by omega] at h2) (by omega)]
      omega
theorem dig_le {c : Int32} (h : dig c = true) : 48 ≤ c.toInt ∧ c.toInt ≤ 57 := by
  have := of_decide_eq_true h
  rw [Int32.le_iff_toInt_le, Int32.le_iff_toInt_le] at this
  exact this
theorem i32_add {a b : Int32} {x y : Int} (ha : a.toInt = x) (hb : b.toInt = y) (h1 : -2147483648 ≤ x + y) (h2 : x + y < 2147483648) : (a + b).toInt = x + y := by
  rw [Int32.toInt_add, ha, hb]
  exact Int.bmod_eq_of_le (by omega) (by omega)
theorem i32_sub {a b : Int32} {x y : Int} (ha : a.toInt = x) (hb : b.toInt = y) (h1 : -2147483648 ≤ x - y) (h2 : x - y < 2147483648) : (a - b).toInt = x - y := by
  rw [Int32.toInt_sub, ha, hb]
  exact Int.bmod_eq_of_le (by omega) (by omega)
theorem i32_mul {a b : Int32} {x y : Int} (ha : a.toInt = x) (hb : b.toInt = y) (h1 : -2147483648 ≤ x * y) (h2 : x * y < 2147483648) : (a * b).toInt = x * y := by
  rw [Int32.toInt_mul, ha, hb]
  exact Int.bmod_eq_of_le (by omega) (by omega)
theorem v_step {a c : Int32} {m : Int} (ha : 0 ≤ a.toInt ∧ a.toInt ≤ m) (hm : m ≤ 999) (hc : dig c = true) : 0 ≤ (10 * a + c - 48).toInt ∧ (10 * a + c - 48).toInt ≤ 10 * m + 9 := by
  have hc := dig_le hc
  have e1 : (10 * a).toInt = 10 * a.toInt := i32_mul (by decide) rfl (by omega) (by omega)
  have e2 : (10 * a + c).toInt = 10 * a.toInt + c.toInt := i32_add e1 rfl (by omega) (by omega)
  have e3 : (10 * a + c - 48).toInt = 10 * a.toInt + c.toInt - 48 := i32_sub e2 (by decide) (by omega) (by omega)
  rw [e3]
  omega
theorem vC_bd {tp : Nat → Int32} {p : Nat} : ∀ k, k ≤ 3 → (∀ t, t < k → dig (tp (p + t)) = true) → 0 ≤ (vC tp p k).toInt ∧ (vC tp p k).toInt ≤ (match k with | 0 => 0 | 1 => 9 | 2 => 99 | _ => 999) := by
  intro k hk h
  match k, hk with
  | 0, _ => exact ⟨by simp [vC], by simp [vC]⟩
  | 1, _ =>
    have := v_step (a := vC tp p 0) (m := 0) ⟨by simp [vC], by simp [vC]⟩ (by decide) (h 0 (by omega))
    exact ⟨this.1, by have := this.2; show (10 * vC tp p 0 + tp (p + 0) - 48).toInt ≤ 9; omega⟩
  | 2, _ =>
    have h1 := v_step (a := vC tp p 0) (m := 0) ⟨by simp [vC], by simp [vC]⟩ (by decide) (h 0 (by omega))
    have h2 := v_step (a := vC tp p 1) (m := 9) ⟨h1.1, by have := h1.2; show (10 * vC tp p 0 + tp (p + 0) - 48).toInt ≤ 9; omega⟩ (by decide) (h 1 (by omega))
    exact ⟨h2.1, by have := h2.2; show (10 * vC tp p 1 + tp (p + 1) - 48).toInt ≤ 99; omega⟩
  | 3, _ =>
    have h1 := v_step (a := vC tp p 0) (m := 0) ⟨by simp [vC], by simp [vC]⟩ (by decide) (h 0 (by omega))
    have h2 := v_step (a := vC tp p 1) (m := 9) ⟨h1.1, by have := h1.2; show (10 * vC tp p 0 + tp (p + 0) - 48).toInt ≤ 9; omega⟩ (by decide) (h 1 (by omega))
    have h3 := v_step (a := vC tp p 2) (m := 99) ⟨h2.1, by have := h2.2; show (10 * vC tp p 1 + tp (p + 1) - 48).toInt ≤ 99; omega⟩ (by decide) (h 2 (by omega))
    exact ⟨h3.1, by have := h3.2; show (10 * vC tp p 2 + tp (p + 2) - 48).toInt ≤ 999; omega⟩
theorem vR_vC {tp : Nat → Int32} {p : Nat} : ∀ k, k ≤ 3 → (∀ t, t < k → dig (tp (p + t)) = true) → vR tp p k = vC tp p k := by
  intro k
  induction k with
  | zero => intro _ _; rfl
  | succ k ih =>
    intro hk h
    have e := ih (by omega) (fun t ht => h t (by omega))
    have b := vC_bd (tp := tp) (p := p) k (by omega) (fun t ht => h t (by omega))
    show (if vR tp p k ≤ 999 then 10 * vR tp p k + tp (p + k) - 48 else vR tp p k) = 10 * vC tp p k + tp (p + k) - 48
    rw [e, if_pos]
    rw [Int32.le_iff_toInt_le]
    show (vC tp p k).toInt ≤ 999
    have h2 : (match k with | 0 => (0 : Int) | 1 => 9 | 2 => 99 | _ => 999) ≤ 999 := by
      match k with
      | 0 => decide
      | 1 => decide
      | 2 => decide
      | n + 3 => exact Int.le_refl _
    omega
theorem u2_row {g : MM} {c b k : Nat} {v : Int32} (h : k ≠ c) : u2 g c b v k = g k := by
  funext t
  simp [u2, h]
/-- nothing but the reader's own numbers has changed -/
def agT (f g : MM) : Prop := ∀ k b, ¬ (k = 85 ∧ 10 ≤ b ∧ b ≤ 14) → g k b = f k b
theorem agT.rf {f : MM} : agT f f := fun _ _ _ => rfl
theorem agT.tr {f g h : MM} (h1 : agT f g) (h2 : agT g h) : agT f h := fun k b hk => (h2 k b hk).trans (h1 k b hk)
theorem agT.put {f g : MM} (h : agT f g) {b : Nat} {v : Int32} (h1 : 10 ≤ b) (h2 : b ≤ 14) : agT f (u2 g 85 b v) := fun k t hk => by
  rw [← h k t hk]
  simp only [u2]
  rw [if_neg (by omega)]
theorem agT.row {f g : MM} (h : agT f g) {k : Nat} (hk : k ≠ 85) : g k = f k := by
  funext b
  exact h k b (fun q => hk q.1)
/-- the reference's reader stands at p -/
def AtR (tp : Nat → Int32) (len : Nat) (f : MM) (p : Nat) : Prop := len ≤ 120 ∧ f 91 = tp ∧ f 85 8 = nI len ∧ p ≤ len ∧ nx tp len p ≤ len ∧ f 85 10 = nI (nx tp len p) ∧ f 85 11 = nI (knd tp len p) ∧ (1 ≤ knd tp len p → knd tp len p ≤ 2 → f 85 12 = vl tp len p) ∧ f 85 13 = nI p
set_option maxRecDepth 100000 in
set_option maxHeartbeats 4000000 in
theorem c_X9_isSign {G : GG} {kn : Nat} {f : MM} {a : Int32} : CI G mX9_isSign 2 kn [.int a] f (b1 (sgn a)) f := by
  refine Ct.of [some (.int a)] rfl (by decide +kernel) rfl (Nat.le_of_ble_eq_true rfl) rfl ?_
  intro X C
  refine r_iload_n (pc := 0) C dX9_isSign_0 rfl ?_
  refine r_i2l (pc := 1) C dX9_isSign_1 ?_
  refine r_ldc2 (pc := 2) C (97) kX9_94 dX9_isSign_2 ?_
  refine r_ldc2 (pc := 5) C (122) kX9_96 dX9_isSign_5 ?_
  refine q_sIf (pc := 8) C kX9_66 dX9_isSign_8 (c_X9_in (lo := 97) (hi := 122) (by decide) (by decide)) rfl rfl (Nat.le_of_ble_eq_true rfl) (by decide) ⟨by decide, by decide⟩ ?_
  refine r_if_ne (pc := 11) C 26 dX9_isSign_11 (by decide) (fun c11 => ?_) (fun c11 => ?_)
  · replace c11 := b1_1 c11
    refine r_iconst (pc := 26) C (1) dX9_isSign_26 (by decide) ?_
    refine r_goto (pc := 27) C 31 dX9_isSign_27 (by decide) ?_
    refine q_zret (pc := 31) C dX9_isSign_31 rfl (Or.inr rfl) ?_
    refine ⟨?_, rfl⟩
    simp [sgn, b1, c11]
  · replace c11 := b1_0 c11
    refine r_iload_n (pc := 14) C dX9_isSign_14 rfl ?_
    refine r_bipush (pc := 15) C (44) dX9_isSign_15 (by decide) ?_
    refine r_icmp_eq (pc := 17) C 26 dX9_isSign_17 (by decide) (fun c17 => ?_) (fun c17 => ?_)
    · refine r_iconst (pc := 26) C (1) dX9_isSign_26 (by decide) ?_
      refine r_goto (pc := 27) C 31 dX9_isSign_27 (by decide) ?_
      refine q_zret (pc := 31) C dX9_isSign_31 rfl (Or.inr rfl) ?_
      refine ⟨?_, rfl⟩
      simp [sgn, b1, c11, c17]
    · refine r_iload_n (pc := 20) C dX9_isSign_20 rfl ?_
      refine r_bipush (pc := 21) C (59) dX9_isSign_21 (by decide) ?_
      refine r_icmp_ne (pc := 23) C 30 dX9_isSign_23 (by decide) (fun c23 => ?_) (fun c23 => ?_)
      · refine r_iconst (pc := 30) C (0) dX9_isSign_30 (by decide) ?_
        refine q_zret (pc := 31) C dX9_isSign_31 rfl (Or.inl rfl) ?_
        refine ⟨?_, rfl⟩
        simp [sgn, b1, c11, c17, c23]
      · refine r_iconst (pc := 26) C (1) dX9_isSign_26 (by decide) ?_
        refine r_goto (pc := 27) C 31 dX9_isSign_27 (by decide) ?_
        refine q_zret (pc := 31) C dX9_isSign_31 rfl (Or.inr rfl) ?_
        refine ⟨?_, rfl⟩
        simp [sgn, b1, c11, c17, c23]
theorem c_dig {G : GG} {kn : Nat} {f : MM} {x : Int32} : CI G mX9_in 1 kn [.long x.toInt64, .long 48, .long 57] f (b1 (dig x)) f := c_X9_in (lo := 48) (hi := 57) (by decide) (by decide)
set_option maxRecDepth 100000 in
set_option maxHeartbeats 4000000 in
theorem l_nextToken {X : XT} {G : GG} {kn : Nat} {Q : State → Prop} {f : MM} {tp : Nat → Int32} {len q : Nat} (hlen : len ≤ 120) (C : Cx X G mX9_nextToken 3 0 0 (NN kn)) (K : ∀ (i : Nat) (g : MM), (q + i ≤ len ∧ (∀ t, t < i → q + t < len ∧ dig (tp (q + t)) = true) ∧ g 91 = tp ∧ g 85 8 = nI len ∧ g 85 10 = nI (q + i) ∧ g 85 12 = vR tp q i ∧ g 85 13 = nI q ∧ g 85 11 = (if q = len then 3 else 0) ∧ agT f g) → (len ≤ q + i ∨ dig (tp (q + i)) = false) → Vw X G mX9_nextToken.2.2.2.1 0 0 Q (NN kn) (shF kn) g 120 [some (.ref (G.1 + 85))] []) : ∀ (m i : Nat) (g : MM), q + i + m = len → (q + i ≤ len ∧ (∀ t, t < i → q + t < len ∧ dig (tp (q + t)) = true) ∧ g 91 = tp ∧ g 85 8 = nI len ∧ g 85 10 = nI (q + i) ∧ g 85 12 = vR tp q i ∧ g 85 13 = nI q ∧ g 85 11 = (if q = len then 3 else 0) ∧ agT f g) → Vw X G mX9_nextToken.2.2.2.1 0 0 Q (NN kn) (shF kn) g 33 [some (.ref (G.1 + 85))] [] := by
  intro m
  induction m with
  | zero =>
    intro i g hm hg
    obtain ⟨h1, h2, h3, h4, h5, h6, h7, h8, h9⟩ := id hg
    refine r_aload_n (pc := 33) C dX9_nextToken_33 rfl ?_
    refine r_get (pc := 34) C fX9_98 dX9_nextToken_34 (s_85 _) rfl ?_
    refine r_aload_n (pc := 37) C dX9_nextToken_37 rfl ?_
    refine r_get (pc := 38) C fX9_90 dX9_nextToken_38 (s_85 _) rfl ?_
    refine q_ge (pc := 41) C (q + i) len 120 h5 h4 (by omega) (by omega) dX9_nextToken_41 (by decide) (fun c41 => ?_) (fun c41 => ?_)
    · exact K i g hg (Or.inl c41)
    · exact absurd c41 (by omega)
  | succ m ih =>
    intro i g hm hg
    obtain ⟨h1, h2, h3, h4, h5, h6, h7, h8, h9⟩ := id hg
    refine r_aload_n (pc := 33) C dX9_nextToken_33 rfl ?_
    refine r_get (pc := 34) C fX9_98 dX9_nextToken_34 (s_85 _) rfl ?_
    refine r_aload_n (pc := 37) C dX9_nextToken_37 rfl ?_
    refine r_get (pc := 38) C fX9_90 dX9_nextToken_38 (s_85 _) rfl ?_
    refine q_ge (pc := 41) C (q + i) len 120 h5 h4 (by omega) (by omega) dX9_nextToken_41 (by decide) (fun c41 => ?_) (fun c41 => ?_)
    · exact absurd c41 (by omega)
    · refine r_aload_n (pc := 44) C dX9_nextToken_44 rfl ?_
      refine r_getr (pc := 45) C fX9_25 dX9_nextToken_45 (s_85 _) rfl rfl ?_
      refine r_aload_n (pc := 48) C dX9_nextToken_48 rfl ?_
      refine r_get (pc := 49) C fX9_98 dX9_nextToken_49 (s_85 _) rfl ?_
      refine q_iald (pc := 52) C (q + i) dX9_nextToken_52 (s_91 _) (sn_91 _) h5 (by omega) (by decide) ?_
      refine r_i2l (pc := 53) C dX9_nextToken_53 ?_
      refine r_ldc2 (pc := 54) C (48) kX9_110 dX9_nextToken_54 ?_
      refine r_ldc2 (pc := 57) C (57) kX9_112 dX9_nextToken_57 ?_
      refine q_sIf (pc := 60) C kX9_66 dX9_nextToken_60 (c_dig) rfl rfl (Nat.le_of_ble_eq_true rfl) (by decide) ⟨by decide, by decide⟩ ?_
      refine r_if_eq (pc := 63) C 120 dX9_nextToken_63 (by decide) (fun c63 => ?_) (fun c63 => ?_)
      · replace c63 := b1_0 c63
        rw [h3] at c63
        exact K i g hg (Or.inr c63)
      · replace c63 := b1_1 c63
        rw [h3] at c63
        refine r_aload_n (pc := 66) C dX9_nextToken_66 rfl ?_
        refine r_aload_n (pc := 67) C dX9_nextToken_67 rfl ?_
        refine r_get (pc := 68) C fX9_107 dX9_nextToken_68 (s_85 _) rfl ?_
        refine r_sipush (pc := 71) C (999) dX9_nextToken_71 (by decide) ?_
        refine r_icmp_le (pc := 74) C 84 dX9_nextToken_74 (by decide) (fun c74 => ?_) (fun c74 => ?_)
        · refine r_bipush (pc := 84) C (10) dX9_nextToken_84 (by decide) ?_
          refine r_aload_n (pc := 86) C dX9_nextToken_86 rfl ?_
          refine r_get (pc := 87) C fX9_107 dX9_nextToken_87 (s_85 _) rfl ?_
          refine r_imul (pc := 90) C dX9_nextToken_90 ?_
          refine r_aload_n (pc := 91) C dX9_nextToken_91 rfl ?_
          refine r_getr (pc := 92) C fX9_25 dX9_nextToken_92 (s_85 _) rfl rfl ?_
          refine r_aload_n (pc := 95) C dX9_nextToken_95 rfl ?_
          refine r_get (pc := 96) C fX9_98 dX9_nextToken_96 (s_85 _) rfl ?_
          refine q_iald (pc := 99) C (q + i) dX9_nextToken_99 (s_91 _) (sn_91 _) h5 (by omega) (by decide) ?_
          refine r_iadd (pc := 100) C dX9_nextToken_100 ?_
          refine r_bipush (pc := 101) C (48) dX9_nextToken_101 (by decide) ?_
          refine r_isub (pc := 103) C dX9_nextToken_103 ?_
          refine r_put (pc := 104) C fX9_107 ftX9_12 dX9_nextToken_104 (s_85 _) rfl ?_
          refine r_aload_n (pc := 107) C dX9_nextToken_107 rfl ?_
          refine r_dup (pc := 108) C dX9_nextToken_108 rfl ?_
          refine r_get (pc := 109) C fX9_98 dX9_nextToken_109 (s_85 _) rfl ?_
          refine r_iconst (pc := 112) C (1) dX9_nextToken_112 (by decide) ?_
          refine r_iadd (pc := 113) C dX9_nextToken_113 ?_
          refine r_put (pc := 114) C fX9_98 ftX9_10 dX9_nextToken_114 (s_85 _) rfl ?_
          refine r_goto (pc := 117) C 33 dX9_nextToken_117 (by decide) ?_
          refine ih (i + 1) _ (by omega) ⟨by omega, ?_, ?_, ?_, ?_, ?_, ?_, ?_, ?_⟩
          · intro t ht
            by_cases e : t = i
            · subst e; exact ⟨by omega, c63⟩
            · exact h2 t (by omega)
          · rw [u2_row (by decide), u2_row (by decide)]; exact h3
          · simp [u2, h4]
          · simp [u2, h5]; exact nI_1 _
          · show _ = (if vR tp q i ≤ 999 then 10 * vR tp q i + tp (q + i) - 48 else vR tp q i)
            rw [← h6, ← h3]
            simp [u2, c74]
          · simp [u2, h7]
          · simp only [u2]; simp; exact h8
          · exact (h9.put (by decide) (by decide)).put (by decide) (by decide)
        · refine r_aload_n (pc := 77) C dX9_nextToken_77 rfl ?_
          refine r_get (pc := 78) C fX9_107 dX9_nextToken_78 (s_85 _) rfl ?_
          refine r_goto (pc := 81) C 104 dX9_nextToken_81 (by decide) ?_
          refine r_put (pc := 104) C fX9_107 ftX9_12 dX9_nextToken_104 (s_85 _) rfl ?_
          refine r_aload_n (pc := 107) C dX9_nextToken_107 rfl ?_
          refine r_dup (pc := 108) C dX9_nextToken_108 rfl ?_
          refine r_get (pc := 109) C fX9_98 dX9_nextToken_109 (s_85 _) rfl ?_
          refine r_iconst (pc := 112) C (1) dX9_nextToken_112 (by decide) ?_
          refine r_iadd (pc := 113) C dX9_nextToken_113 ?_
          refine r_put (pc := 114) C fX9_98 ftX9_10 dX9_nextToken_114 (s_85 _) rfl ?_
          refine r_goto (pc := 117) C 33 dX9_nextToken_117 (by decide) ?_
          refine ih (i + 1) _ (by omega) ⟨by omega, ?_, ?_, ?_, ?_, ?_, ?_, ?_, ?_⟩
          · intro t ht
            by_cases e : t = i
            · subst e; exact ⟨by omega, c63⟩
            · exact h2 t (by omega)
          · rw [u2_row (by decide), u2_row (by decide)]; exact h3
          · simp [u2, h4]
          · simp [u2, h5]; exact nI_1 _
          · show _ = (if vR tp q i ≤ 999 then 10 * vR tp q i + tp (q + i) - 48 else vR tp q i)
            rw [← h6, ← h3]
            simp [u2, c74]
          · simp [u2, h7]
          · simp only [u2]; simp; exact h8
          · exact (h9.put (by decide) (by decide)).put (by decide) (by decide)
set_option maxRecDepth 100000 in
set_option maxHeartbeats 4000000 in
theorem e_nextToken {X : XT} {G : GG} {kn : Nat} {f : MM} {tp : Nat → Int32} {len q : Nat} (hlen : len ≤ 120) (C : Cx X G mX9_nextToken 3 0 0 (NN kn)) {i : Nat} {g : MM} (hg : (q + i ≤ len ∧ (∀ t, t < i → q + t < len ∧ dig (tp (q + t)) = true) ∧ g 91 = tp ∧ g 85 8 = nI len ∧ g 85 10 = nI (q + i) ∧ g 85 12 = vR tp q i ∧ g 85 13 = nI q ∧ g 85 11 = (if q = len then 3 else 0) ∧ agT f g)) (hx : len ≤ q + i ∨ dig (tp (q + i)) = false) : Vw X G mX9_nextToken.2.2.2.1 0 0 (QQ X G (pV kn (fun g => AtR tp len g q ∧ agT f g)) 0 0) (NN kn) (shF kn) g 120 [some (.ref (G.1 + 85))] [] := by
  obtain ⟨h1, h2, h3, h4, h5, h6, h7, h8, h9⟩ := hg
  have hd : dEnd tp len q = q + i := dE_run h2 hx (by omega)
  have hdg : 0 < i → dig (tp q) = true := fun z => by have := (h2 0 z).2; rwa [Nat.add_zero] at this
  refine r_aload_n (pc := 120) C dX9_nextToken_120 rfl ?_
  refine r_get (pc := 121) C fX9_98 dX9_nextToken_121 (s_85 _) rfl ?_
  refine r_aload_n (pc := 124) C dX9_nextToken_124 rfl ?_
  refine r_get (pc := 125) C fX9_101 dX9_nextToken_125 (s_85 _) rfl ?_
  refine q_le (pc := 128) C (q + i) q 156 h5 h7 (by omega) (by omega) dX9_nextToken_128 (by decide) (fun c128 => ?_) (fun c128 => ?_)
  · refine r_aload_n (pc := 156) C dX9_nextToken_156 rfl ?_
    refine r_get (pc := 157) C fX9_104 dX9_nextToken_157 (s_85 _) rfl ?_
    refine r_if_ne (pc := 160) C 210 dX9_nextToken_160 (by decide) (fun c160 => ?_) (fun c160 => ?_)
    · have hql : q = len := by
        rcases Nat.lt_or_ge q len with z | z
        · exact absurd (by rw [h8, if_neg (by omega)]) c160
        · omega
      obtain rfl : 0 = i := by omega
      refine q_vret (pc := 210) C dX9_nextToken_210 rfl ?_
      refine ⟨⟨hlen, h3, h4, by omega, ?_, ?_, ?_, ?_, h7⟩, h9⟩
      · rw [show nx tp len q = q by simp [nx, hql]]; omega
      · rw [show nx tp len q = q by simp [nx, hql]]; rw [h5]; rfl
      · rw [show knd tp len q = 3 by simp [knd, hql], h8, if_pos hql]; rfl
      · intro z1 z2
        rw [show knd tp len q = 3 by simp [knd, hql]] at z2
        omega
    · have hql : ¬ q = len := by
        intro e
        rw [h8, if_pos e] at c160
        exact absurd c160 (by decide)
      obtain rfl : 0 = i := by omega
      refine r_aload_n (pc := 163) C dX9_nextToken_163 rfl ?_
      refine r_aload_n (pc := 164) C dX9_nextToken_164 rfl ?_
      refine r_getr (pc := 165) C fX9_25 dX9_nextToken_165 (s_85 _) rfl rfl ?_
      refine r_aload_n (pc := 168) C dX9_nextToken_168 rfl ?_
      refine r_get (pc := 169) C fX9_98 dX9_nextToken_169 (s_85 _) rfl ?_
      refine q_iald (pc := 172) C (q + 0) dX9_nextToken_172 (s_91 _) (sn_91 _) h5 (by omega) (by decide) ?_
      refine q_sIf (pc := 173) C kX9_114 dX9_nextToken_173 (c_X9_isSign) rfl rfl (Nat.le_of_ble_eq_true rfl) (by decide) ⟨by decide, by decide⟩ ?_
      refine r_if_eq (pc := 176) C 183 dX9_nextToken_176 (by decide) (fun c176 => ?_) (fun c176 => ?_)
      · replace c176 := b1_0 c176
        refine r_iconst (pc := 183) C (0) dX9_nextToken_183 (by decide) ?_
        refine r_put (pc := 184) C fX9_104 ftX9_11 dX9_nextToken_184 (s_85 _) rfl ?_
        refine r_aload_n (pc := 187) C dX9_nextToken_187 rfl ?_
        refine r_aload_n (pc := 188) C dX9_nextToken_188 rfl ?_
        refine r_getr (pc := 189) C fX9_25 dX9_nextToken_189 (s_85 _) rfl rfl ?_
        refine r_aload_n (pc := 192) C dX9_nextToken_192 rfl ?_
        refine r_get (pc := 193) C fX9_98 dX9_nextToken_193 (s_85 _) rfl ?_
        refine q_iald (pc := 196) C (q + 0) dX9_nextToken_196 (s_91 _) (sn_91 _) (by simp [u2]; exact h5) (by omega) (by decide) ?_
        refine r_put (pc := 197) C fX9_107 ftX9_12 dX9_nextToken_197 (s_85 _) rfl ?_
        refine r_aload_n (pc := 200) C dX9_nextToken_200 rfl ?_
        refine r_dup (pc := 201) C dX9_nextToken_201 rfl ?_
        refine r_get (pc := 202) C fX9_98 dX9_nextToken_202 (s_85 _) rfl ?_
        refine r_iconst (pc := 205) C (1) dX9_nextToken_205 (by decide) ?_
        refine r_iadd (pc := 206) C dX9_nextToken_206 ?_
        refine r_put (pc := 207) C fX9_98 ftX9_10 dX9_nextToken_207 (s_85 _) rfl ?_
        refine q_vret (pc := 210) C dX9_nextToken_210 rfl ?_
        have hnd : dig (tp q) = false := by
          rcases hx with z | z
          · omega
          · rwa [Nat.add_zero] at z
        have hlt : ¬ len ≤ q := by omega
        rw [Nat.add_zero, h3] at c176
        refine ⟨⟨hlen, ?_, ?_, by omega, ?_, ?_, ?_, ?_, ?_⟩, ?_⟩
        · rw [u2_row (by decide), u2_row (by decide), u2_row (by decide)]; exact h3
        · simp [u2, h4]
        · rw [show nx tp len q = q + 1 by simp [nx, hlt, hnd]]; omega
        · rw [show nx tp len q = q + 1 by simp [nx, hlt, hnd]]; simp [u2, h5]; exact nI_1 _
        · rw [show knd tp len q = 0 by simp [knd, hlt, hnd, c176]]; simp [u2]; rfl
        · intro z1 z2
          rw [show vl tp len q = tp q by simp [vl, hnd]]
          simp [u2, h3]
        · simp [u2, h7]
        · exact ((h9.put (by decide) (by decide)).put (by decide) (by decide)).put (by decide) (by decide)
      · replace c176 := b1_1 c176
        refine r_iconst (pc := 179) C (1) dX9_nextToken_179 (by decide) ?_
        refine r_goto (pc := 180) C 184 dX9_nextToken_180 (by decide) ?_
        refine r_put (pc := 184) C fX9_104 ftX9_11 dX9_nextToken_184 (s_85 _) rfl ?_
        refine r_aload_n (pc := 187) C dX9_nextToken_187 rfl ?_
        refine r_aload_n (pc := 188) C dX9_nextToken_188 rfl ?_
        refine r_getr (pc := 189) C fX9_25 dX9_nextToken_189 (s_85 _) rfl rfl ?_
        refine r_aload_n (pc := 192) C dX9_nextToken_192 rfl ?_
        refine r_get (pc := 193) C fX9_98 dX9_nextToken_193 (s_85 _) rfl ?_
        refine q_iald (pc := 196) C (q + 0) dX9_nextToken_196 (s_91 _) (sn_91 _) (by simp [u2]; exact h5) (by omega) (by decide) ?_
        refine r_put (pc := 197) C fX9_107 ftX9_12 dX9_nextToken_197 (s_85 _) rfl ?_
        refine r_aload_n (pc := 200) C dX9_nextToken_200 rfl ?_
        refine r_dup (pc := 201) C dX9_nextToken_201 rfl ?_
        refine r_get (pc := 202) C fX9_98 dX9_nextToken_202 (s_85 _) rfl ?_
        refine r_iconst (pc := 205) C (1) dX9_nextToken_205 (by decide) ?_
        refine r_iadd (pc := 206) C dX9_nextToken_206 ?_
        refine r_put (pc := 207) C fX9_98 ftX9_10 dX9_nextToken_207 (s_85 _) rfl ?_
        refine q_vret (pc := 210) C dX9_nextToken_210 rfl ?_
        have hnd : dig (tp q) = false := by
          rcases hx with z | z
          · omega
          · rwa [Nat.add_zero] at z
        have hlt : ¬ len ≤ q := by omega
        rw [Nat.add_zero, h3] at c176
        refine ⟨⟨hlen, ?_, ?_, by omega, ?_, ?_, ?_, ?_, ?_⟩, ?_⟩
        · rw [u2_row (by decide), u2_row (by decide), u2_row (by decide)]; exact h3
        · simp [u2, h4]
        · rw [show nx tp len q = q + 1 by simp [nx, hlt, hnd]]; omega
        · rw [show nx tp len q = q + 1 by simp [nx, hlt, hnd]]; simp [u2, h5]; exact nI_1 _
        · rw [show knd tp len q = 1 by simp [knd, hlt, hnd, c176]]; simp [u2]; rfl
        · intro z1 z2
          rw [show vl tp len q = tp q by simp [vl, hnd]]
          simp [u2, h3]
        · simp [u2, h7]
        · exact ((h9.put (by decide) (by decide)).put (by decide) (by decide)).put (by decide) (by decide)
  · refine r_aload_n (pc := 131) C dX9_nextToken_131 rfl ?_
    refine r_aload_n (pc := 132) C dX9_nextToken_132 rfl ?_
    refine r_get (pc := 133) C fX9_98 dX9_nextToken_133 (s_85 _) rfl ?_
    refine r_aload_n (pc := 136) C dX9_nextToken_136 rfl ?_
    refine r_get (pc := 137) C fX9_101 dX9_nextToken_137 (s_85 _) rfl ?_
    refine r_isub (pc := 140) C dX9_nextToken_140 ?_
    refine q_is (i) (by rw [h5, h7, pk_sub (by omega), Nat.add_sub_cancel_left]) ?_
    refine r_iconst (pc := 141) C (3) dX9_nextToken_141 (by decide) ?_
    refine q_le (pc := 142) C i 3 149 rfl rfl (by omega) (by omega) dX9_nextToken_142 (by decide) (fun c142 => ?_) (fun c142 => ?_)
    · refine r_iconst (pc := 149) C (2) dX9_nextToken_149 (by decide) ?_
      refine r_put (pc := 150) C fX9_104 ftX9_11 dX9_nextToken_150 (s_85 _) rfl ?_
      refine r_goto (pc := 153) C 210 dX9_nextToken_153 (by decide) ?_
      refine q_vret (pc := 210) C dX9_nextToken_210 rfl ?_
      refine ⟨⟨hlen, ?_, ?_, by omega, ?_, ?_, ?_, ?_, ?_⟩, ?_⟩
      · rw [u2_row (by decide)]; exact h3
      · simp [u2, h4]
      · rw [show nx tp len q = q + i by simp [nx, hdg (by omega), hd, show ¬ len ≤ q by have := (h2 0 (by omega)).1; omega]]; exact h1
      · rw [show nx tp len q = q + i by simp [nx, hdg (by omega), hd, show ¬ len ≤ q by have := (h2 0 (by omega)).1; omega]]; simp [u2, h5]
      · rw [show knd tp len q = 2 by simp [knd, hdg (by omega), hd, show ¬ len ≤ q by have := (h2 0 (by omega)).1; omega]; omega]; simp [u2]; rfl
      · intro z1 z2
        rw [show vl tp len q = vC tp q i by simp [vl, hdg (by omega), hd], ← vR_vC i (by omega) (fun t ht => (h2 t ht).2)]
        simp [u2, h6]
      · simp [u2, h7]
      · exact h9.put (by decide) (by decide)
    · refine r_iconst (pc := 145) C (0) dX9_nextToken_145 (by decide) ?_
      refine r_goto (pc := 146) C 150 dX9_nextToken_146 (by decide) ?_
      refine r_put (pc := 150) C fX9_104 ftX9_11 dX9_nextToken_150 (s_85 _) rfl ?_
      refine r_goto (pc := 153) C 210 dX9_nextToken_153 (by decide) ?_
      refine q_vret (pc := 210) C dX9_nextToken_210 rfl ?_
      refine ⟨⟨hlen, ?_, ?_, by omega, ?_, ?_, ?_, ?_, ?_⟩, ?_⟩
      · rw [u2_row (by decide)]; exact h3
      · simp [u2, h4]
      · rw [show nx tp len q = q + i by simp [nx, hdg (by omega), hd, show ¬ len ≤ q by have := (h2 0 (by omega)).1; omega]]; exact h1
      · rw [show nx tp len q = q + i by simp [nx, hdg (by omega), hd, show ¬ len ≤ q by have := (h2 0 (by omega)).1; omega]]; simp [u2, h5]
      · rw [show knd tp len q = 0 by simp [knd, hdg (by omega), hd, show ¬ len ≤ q by have := (h2 0 (by omega)).1; omega]; omega]; simp [u2]; rfl
      · intro z1 z2
        rw [show knd tp len q = 0 by simp [knd, hdg (by omega), hd, show ¬ len ≤ q by have := (h2 0 (by omega)).1; omega]; omega] at z1
        omega
      · simp [u2, h7]
      · exact h9.put (by decide) (by decide)
set_option maxRecDepth 100000 in
set_option maxHeartbeats 4000000 in
theorem c_X9_nextToken {G : GG} {kn : Nat} {f : MM} {tp : Nat → Int32} {len q : Nat} (hlen : len ≤ 120) (ht : f 91 = tp) (hl : f 85 8 = nI len) (hp : f 85 10 = nI q) (hq : q ≤ len) : RV G mX9_nextToken 3 kn [.ref (G.1 + 85)] f (fun g => AtR tp len g q ∧ agT f g) := by
  refine Ct.of [some (.ref (G.1 + 85))] rfl (by decide +kernel) rfl (Nat.le_of_ble_eq_true rfl) rfl ?_
  intro X C
  refine r_aload_n (pc := 0) C dX9_nextToken_0 rfl ?_
  refine r_aload_n (pc := 1) C dX9_nextToken_1 rfl ?_
  refine r_get (pc := 2) C fX9_98 dX9_nextToken_2 (s_85 _) rfl ?_
  refine r_put (pc := 5) C fX9_101 ftX9_13 dX9_nextToken_5 (s_85 _) rfl ?_
  refine r_aload_n (pc := 8) C dX9_nextToken_8 rfl ?_
  refine r_aload_n (pc := 9) C dX9_nextToken_9 rfl ?_
  refine r_get (pc := 10) C fX9_98 dX9_nextToken_10 (s_85 _) rfl ?_
  refine r_aload_n (pc := 13) C dX9_nextToken_13 rfl ?_
  refine r_get (pc := 14) C fX9_90 dX9_nextToken_14 (s_85 _) rfl ?_
  refine q_ne (pc := 17) C q len 24 (by simp [u2, hp]) (by simp [u2, hl]) (by omega) (by omega) dX9_nextToken_17 (by decide) (fun c17 => ?_) (fun c17 => ?_)
  · refine r_iconst (pc := 24) C (0) dX9_nextToken_24 (by decide) ?_
    refine r_put (pc := 25) C fX9_104 ftX9_11 dX9_nextToken_25 (s_85 _) rfl ?_
    refine r_aload_n (pc := 28) C dX9_nextToken_28 rfl ?_
    refine r_iconst (pc := 29) C (0) dX9_nextToken_29 (by decide) ?_
    refine r_put (pc := 30) C fX9_107 ftX9_12 dX9_nextToken_30 (s_85 _) rfl ?_
    refine l_nextToken (f := f) (tp := tp) (len := len) (q := q) hlen C (fun i g hg hx => e_nextToken hlen C hg hx) (len - q) 0 _ (by omega) ⟨by omega, fun t ht => absurd ht (by omega), ?_, ?_, ?_, ?_, ?_, ?_, ?_⟩
    · rw [u2_row (by decide), u2_row (by decide), u2_row (by decide)]; exact ht
    · simp [u2, hl]
    · simp [u2, hp]
    · simp [u2, vR]
    · simp [u2, hp]
    · simp [u2, c17]
    · exact ((agT.rf.put (by decide) (by decide)).put (by decide) (by decide)).put (by decide) (by decide)
  · refine r_iconst (pc := 20) C (3) dX9_nextToken_20 (by decide) ?_
    refine r_goto (pc := 21) C 25 dX9_nextToken_21 (by decide) ?_
    refine r_put (pc := 25) C fX9_104 ftX9_11 dX9_nextToken_25 (s_85 _) rfl ?_
    refine r_aload_n (pc := 28) C dX9_nextToken_28 rfl ?_
    refine r_iconst (pc := 29) C (0) dX9_nextToken_29 (by decide) ?_
    refine r_put (pc := 30) C fX9_107 ftX9_12 dX9_nextToken_30 (s_85 _) rfl ?_
    refine l_nextToken (f := f) (tp := tp) (len := len) (q := q) hlen C (fun i g hg hx => e_nextToken hlen C hg hx) (len - q) 0 _ (by omega) ⟨by omega, fun t ht => absurd ht (by omega), ?_, ?_, ?_, ?_, ?_, ?_, ?_⟩
    · rw [u2_row (by decide), u2_row (by decide), u2_row (by decide)]; exact ht
    · simp [u2, hl]
    · simp [u2, hp]
    · simp [u2, vR]
    · simp [u2, hp]
    · simp [u2, c17]
    · exact ((agT.rf.put (by decide) (by decide)).put (by decide) (by decide)).put (by decide) (by decide)
