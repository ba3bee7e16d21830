/-! ORDERS, as words stand in a word book; the reference's sacks -/
def kF (l : List Nat) : Nat → Option Nat
  | 0 => none
  | k + 1 => if l.getD (k + 1) 0 < l.getD k 0 then kF l k else some k
def jF (l : List Nat) (k : Nat) : Nat → Nat
  | 0 => 0
  | j + 1 => if l.getD (j + 1) 0 < l.getD k 0 then jF l k j else j + 1
def sw (l : List Nat) (a b : Nat) : List Nat := (l.set a (l.getD b 0)).set b (l.getD a 0)
def rvF : Nat → List Nat → Nat → Nat → List Nat
  | 0, l, _, _ => l
  | m + 1, l, a, b => if a < b then rvF m (sw l a b) (a + 1) (b - 1) else l
def nxtL (n : Nat) (l : List Nat) : Option (List Nat) := match kF l (n - 1) with
  | none => none
  | some k => some (rvF n (sw l k (jF l k (n - 1))) (k + 1) (n - 1))
def ends (n : Nat) : Nat → List Nat → Bool
  | 0, _ => false
  | m + 1, l => (l.length == n) && l.all (fun x => decide (x < n)) && (match nxtL n l with
    | none => true
    | some l' => ends n m l')
theorem ends_ok : ∀ n, n ≤ 6 → ends n 720 (List.range n) = true := by
  intro n hn
  have : n = 0 ∨ n = 1 ∨ n = 2 ∨ n = 3 ∨ n = 4 ∨ n = 5 ∨ n = 6 := by omega
  rcases this with rfl | rfl | rfl | rfl | rfl | rfl | rfl <;> decide +kernel
/-- a cell holds an order -/
def rowIs (g : MM) (c n : Nat) (l : List Nat) : Prop := l.length = n ∧ (∀ t, t < n → l.getD t 0 < 6) ∧ ∀ t, t < n → g c t = nI (l.getD t 0)
theorem sw_len {l : List Nat} {a b : Nat} : (sw l a b).length = l.length := by simp [sw]
theorem sw_get {l : List Nat} {a b t : Nat} (ha : a < l.length) (hb : b < l.length) : (sw l a b).getD t 0 = if t = b then l.getD a 0 else if t = a then l.getD b 0 else l.getD t 0 := by
  unfold sw
  simp only [List.getD_eq_getElem?_getD]
  by_cases h1 : t = b
  · subst h1
    rw [if_pos rfl, List.getElem?_set_self (by simpa using hb)]
    rfl
  · rw [if_neg h1, List.getElem?_set_ne (Ne.symm h1)]
    by_cases h2 : t = a
    · subst h2
      rw [if_pos rfl, List.getElem?_set_self ha]
      rfl
    · rw [if_neg h2, List.getElem?_set_ne (Ne.symm h2)]
theorem rowIs.sw {g : MM} {c n a b : Nat} {l : List Nat} (h : rowIs g c n l) (ha : a < n) (hb : b < n) : rowIs (u2 (u2 g c a (g c b)) c b (g c a)) c n (sw l a b) := by
  obtain ⟨h1, h2, h3⟩ := h
  refine ⟨by rw [sw_len, h1], fun t ht => ?_, fun t ht => ?_⟩
  · rw [sw_get (by omega) (by omega)]
    split
    · exact h2 a ha
    · split
      · exact h2 b hb
      · exact h2 t ht
  · rw [sw_get (by omega) (by omega)]
    simp only [u2]
    by_cases q1 : t = b
    · rw [if_pos ⟨trivial, q1⟩, if_pos q1]; exact h3 a ha
    · rw [if_neg (fun z => q1 z.2), if_neg q1]
      by_cases q2 : t = a
      · rw [if_pos ⟨trivial, q2⟩, if_pos q2]; exact h3 b hb
      · rw [if_neg (fun z => q2 z.2), if_neg q2]; exact h3 t ht
theorem rvF_len : ∀ (m : Nat) (l : List Nat) (a b : Nat), (rvF m l a b).length = l.length := by
  intro m
  induction m with
  | zero => intro l a b; rfl
  | succ m ih =>
    intro l a b
    unfold rvF
    split
    · rw [ih, sw_len]
    · rfl
theorem kF_lt {l : List Nat} : ∀ {c k : Nat}, kF l c = some k → k < c ∧ l.getD k 0 ≤ l.getD (k + 1) 0 := by
  intro c
  induction c with
  | zero => intro k h; cases h
  | succ c ih =>
    intro k h
    unfold kF at h
    split at h
    · have := ih h; omega
    · cases h; omega
theorem jF_in {l : List Nat} {k : Nat} (hk : l.getD k 0 ≤ l.getD (k + 1) 0) : ∀ j, k + 1 ≤ j → k + 1 ≤ jF l k j ∧ jF l k j ≤ j := by
  intro j
  induction j with
  | zero => intro h; omega
  | succ j ih =>
    intro h
    unfold jF
    split
    · by_cases e : j = k
      · subst e; omega
      · have := ih (by omega); omega
    · omega
set_option maxRecDepth 100000 in
set_option maxHeartbeats 4000000 in
theorem c_X9_exchange {G : GG} {kn : Nat} {f : MM} {a b : Nat} (ha : a < 6) (hb : b < 6) : CV G mX9_exchange 1 kn [.ref (G.1 + 85), .int (nI a), .int (nI b)] f (u2 (u2 f 97 a (f 97 b)) 97 b (f 97 a)) := by
  refine Ct.of [some (.ref (G.1 + 85)), some (.int (nI a)), some (.int (nI b)), none] rfl (by decide +kernel) rfl (Nat.le_of_ble_eq_true rfl) rfl ?_
  intro X C
  refine r_aload_n (pc := 0) C dX9_exchange_0 rfl ?_
  refine r_getr (pc := 1) C fX9_43 dX9_exchange_1 (s_85 _) rfl rfl ?_
  refine r_iload_n (pc := 4) C dX9_exchange_4 rfl ?_
  refine q_iald (pc := 5) C a dX9_exchange_5 (s_97 _) (sn_97 _) rfl (by omega) (by decide) ?_
  refine r_istore_n (pc := 6) C dX9_exchange_6 (by decide) rfl ?_
  refine r_aload_n (pc := 7) C dX9_exchange_7 rfl ?_
  refine r_getr (pc := 8) C fX9_43 dX9_exchange_8 (s_85 _) rfl rfl ?_
  refine r_iload_n (pc := 11) C dX9_exchange_11 rfl ?_
  refine r_aload_n (pc := 12) C dX9_exchange_12 rfl ?_
  refine r_getr (pc := 13) C fX9_43 dX9_exchange_13 (s_85 _) rfl rfl ?_
  refine r_iload_n (pc := 16) C dX9_exchange_16 rfl ?_
  refine q_iald (pc := 17) C b dX9_exchange_17 (s_97 _) (sn_97 _) rfl (by omega) (by decide) ?_
  refine q_iast (pc := 18) C a dX9_exchange_18 (s_97 _) (sn_97 _) rfl (by omega) (by decide) ?_
  refine r_aload_n (pc := 19) C dX9_exchange_19 rfl ?_
  refine r_getr (pc := 20) C fX9_43 dX9_exchange_20 (s_85 _) rfl rfl ?_
  refine r_iload_n (pc := 23) C dX9_exchange_23 rfl ?_
  refine r_iload_n (pc := 24) C dX9_exchange_24 rfl ?_
  refine q_iast (pc := 25) C b dX9_exchange_25 (s_97 _) (sn_97 _) rfl (by omega) (by decide) ?_
  refine q_vret (pc := 26) C dX9_exchange_26 rfl ?_
  rfl
set_option maxRecDepth 100000 in
set_option maxHeartbeats 4000000 in
theorem l_nextRow1 {X : XT} {G : GG} {kn : Nat} {Q : State → Prop} {f : MM} {n : Nat} {l : List Nat} {R : Option Nat} (C : Cx X G mX9_nextRow 2 0 0 (NN kn)) (hn : n ≤ 6) (hr : rowIs f 97 n l)
    (K0 : R = none → Vw X G mX9_nextRow.2.2.2.1 0 0 Q (NN kn) (shF kn) f 31 [some (.ref (G.1 + 85)), some (.int (nI n)), some (.int (-1)), none, none, none] []) (K1 : ∀ k, R = some k → Vw X G mX9_nextRow.2.2.2.1 0 0 Q (NN kn) (shF kn) f 31 [some (.ref (G.1 + 85)), some (.int (nI n)), some (.int (nI k)), none, none, none] []) : ∀ (c : Nat), c < n → kF l c = R → Vw X G mX9_nextRow.2.2.2.1 0 0 Q (NN kn) (shF kn) f 4 [some (.ref (G.1 + 85)), some (.int (nI n)), some (.int (nI c - 1)), none, none, none] [] := by
  intro c
  induction c with
  | zero =>
    intro hc hR
    rw [show nI 0 - 1 = -1 by decide]
    refine r_iload_n (pc := 4) C dX9_nextRow_4 rfl ?_
    refine r_if_lt (pc := 5) C 31 dX9_nextRow_5 (by decide) (fun c5 => ?_) (fun c5 => ?_)
    · exact K0 hR.symm
    · exact absurd c5 (by decide)
  | succ c ih =>
    intro hc hR
    rw [nI_pred]
    refine r_iload_n (pc := 4) C dX9_nextRow_4 rfl ?_
    refine r_if_lt (pc := 5) C 31 dX9_nextRow_5 (by decide) (fun c5 => ?_) (fun c5 => ?_)
    · exact absurd c5 (nI_pos (by omega))
    · refine r_aload_n (pc := 8) C dX9_nextRow_8 rfl ?_
      refine r_getr (pc := 9) C fX9_43 dX9_nextRow_9 (s_85 _) rfl rfl ?_
      refine r_iload_n (pc := 12) C dX9_nextRow_12 rfl ?_
      refine q_iald (pc := 13) C c dX9_nextRow_13 (s_97 _) (sn_97 _) rfl (by omega) (by decide) ?_
      refine r_aload_n (pc := 14) C dX9_nextRow_14 rfl ?_
      refine r_getr (pc := 15) C fX9_43 dX9_nextRow_15 (s_85 _) rfl rfl ?_
      refine r_iload_n (pc := 18) C dX9_nextRow_18 rfl ?_
      refine r_iconst (pc := 19) C (1) dX9_nextRow_19 (by decide) ?_
      refine r_iadd (pc := 20) C dX9_nextRow_20 ?_
      refine q_iald (pc := 21) C (c + 1) dX9_nextRow_21 (s_97 _) (sn_97 _) (nI_add c 1) (by omega) (by decide) ?_
      have b1 := hr.2.1 c (by omega)
      have b2 := hr.2.1 (c + 1) (by omega)
      refine q_le (pc := 22) C (l.getD c 0) (l.getD (c + 1) 0) 31 (hr.2.2 c (by omega)) (hr.2.2 (c + 1) (by omega)) (by omega) (by omega) dX9_nextRow_22 (by decide) (fun c22 => ?_) (fun c22 => ?_)
      · exact K1 c (by rw [← hR, kF, if_neg (by omega)])
      · refine r_iinc (pc := 25) C (nI c - 1) dX9_nextRow_25 rfl (nI_m1e c) (by decide) rfl ?_
        refine r_goto (pc := 28) C 4 dX9_nextRow_28 (by decide) ?_
        exact ih (by omega) (by rw [← hR, kF, if_pos (by omega)])
set_option maxRecDepth 100000 in
set_option maxHeartbeats 4000000 in
theorem l_nextRow2 {X : XT} {G : GG} {kn : Nat} {Q : State → Prop} {f : MM} {n k J : Nat} {l : List Nat} (C : Cx X G mX9_nextRow 2 0 0 (NN kn)) (hn : n ≤ 6) (hr : rowIs f 97 n l) (hk : l.getD k 0 ≤ l.getD (k + 1) 0) (hkn : k < n) (K : Vw X G mX9_nextRow.2.2.2.1 0 0 Q (NN kn) (shF kn) f 62 [some (.ref (G.1 + 85)), some (.int (nI n)), some (.int (nI k)), some (.int (nI J)), none, none] []) : ∀ (j : Nat), k + 1 ≤ j → j < n → jF l k j = J → Vw X G mX9_nextRow.2.2.2.1 0 0 Q (NN kn) (shF kn) f 41 [some (.ref (G.1 + 85)), some (.int (nI n)), some (.int (nI k)), some (.int (nI j)), none, none] [] := by
  intro j
  induction j with
  | zero => intro h; exact absurd h (by omega)
  | succ j ih =>
    intro h1 h2 hJ
    have b1 := hr.2.1 k hkn
    have b2 := hr.2.1 (j + 1) h2
    refine r_aload_n (pc := 41) C dX9_nextRow_41 rfl ?_
    refine r_getr (pc := 42) C fX9_43 dX9_nextRow_42 (s_85 _) rfl rfl ?_
    refine r_iload_n (pc := 45) C dX9_nextRow_45 rfl ?_
    refine q_iald (pc := 46) C (j + 1) dX9_nextRow_46 (s_97 _) (sn_97 _) rfl (by omega) (by decide) ?_
    refine r_aload_n (pc := 47) C dX9_nextRow_47 rfl ?_
    refine r_getr (pc := 48) C fX9_43 dX9_nextRow_48 (s_85 _) rfl rfl ?_
    refine r_iload_n (pc := 51) C dX9_nextRow_51 rfl ?_
    refine q_iald (pc := 52) C k dX9_nextRow_52 (s_97 _) (sn_97 _) rfl (by omega) (by decide) ?_
    refine q_ge (pc := 53) C (l.getD (j + 1) 0) (l.getD k 0) 62 (hr.2.2 (j + 1) (by omega)) (hr.2.2 k (by omega)) (by omega) (by omega) dX9_nextRow_53 (by decide) (fun c53 => ?_) (fun c53 => ?_)
    · have e : jF l k (j + 1) = j + 1 := by rw [jF, if_neg (by omega)]
      rw [e] at hJ
      subst hJ
      exact K
    · refine r_iinc (pc := 56) C (nI j) dX9_nextRow_56 rfl (nI_dec j) (by decide) rfl ?_
      refine r_goto (pc := 59) C 41 dX9_nextRow_59 (by decide) ?_
      have hjk : j ≠ k := fun q => by subst q; omega
      exact ih (by omega) (by omega) (by rw [← hJ, jF, if_pos (by omega)])
theorem nI_decP (b : Nat) (h : 0 < b) : nI b + Int32.ofInt (-1) = nI (b - 1) := by
  obtain ⟨c, rfl⟩ : ∃ c, b = c + 1 := ⟨b - 1, by omega⟩
  exact nI_dec c
theorem nI_m2 {n : Nat} (h : 1 ≤ n) : nI n - 2 = nI (n - 1) - 1 := by
  obtain ⟨c, rfl⟩ : ∃ c, n = c + 1 := ⟨n - 1, by omega⟩
  rw [Nat.add_sub_cancel, ← nI_pred c]
  rw [Int32.sub_eq_add_neg, Int32.sub_eq_add_neg (a := nI (c + 1) - 1), Int32.sub_eq_add_neg (a := nI (c + 1)), Int32.add_assoc]
  congr 1
set_option maxRecDepth 100000 in
set_option maxHeartbeats 4000000 in
theorem l_nextRow3 {X : XT} {G : GG} {kn : Nat} {Q : State → Prop} {f : MM} {n : Nat} {L0 : List Nat} (C : Cx X G mX9_nextRow 2 0 0 (NN kn)) (hn : n ≤ 6) (K : ∀ (g : MM), rowIs g 97 n L0 → (∀ k b, k ≠ 97 → g k b = f k b) → Vw X G mX9_nextRow.2.2.2.1 0 0 Q (NN kn) (shF kn) g 102 [some (.ref (G.1 + 85)), none, none, none, none, none] []) : ∀ (m a b : Nat) (l : List Nat) (g : MM), b < n → b < a + m → rowIs g 97 n l → (∀ k b, k ≠ 97 → g k b = f k b) → rvF m l a b = L0 → a < 7 → Vw X G mX9_nextRow.2.2.2.1 0 0 Q (NN kn) (shF kn) g 78 [some (.ref (G.1 + 85)), some (.int (nI n)), none, none, some (.int (nI b)), some (.int (nI a))] [] := by
  intro m
  induction m with
  | zero =>
    intro a b l g hb hm hr ho hL ha
    rw [rvF] at hL
    subst hL
    refine r_iload (pc := 78) C dX9_nextRow_78 rfl ?_
    refine r_iload (pc := 80) C dX9_nextRow_80 rfl ?_
    refine q_ge (pc := 82) C a b 102 rfl rfl (by omega) (by omega) dX9_nextRow_82 (by decide) (fun c82 => ?_) (fun c82 => ?_)
    · exact v_drop _ (by repeat (first | exact trivial | exact rfl | constructor)) (K g hr ho)
    · exact absurd c82 (by omega)
  | succ m ih =>
    intro a b l g hb hm hr ho hL ha
    rw [rvF] at hL
    refine r_iload (pc := 78) C dX9_nextRow_78 rfl ?_
    refine r_iload (pc := 80) C dX9_nextRow_80 rfl ?_
    refine q_ge (pc := 82) C a b 102 rfl rfl (by omega) (by omega) dX9_nextRow_82 (by decide) (fun c82 => ?_) (fun c82 => ?_)
    · rw [if_neg (by omega)] at hL
      subst hL
      exact v_drop _ (by repeat (first | exact trivial | exact rfl | constructor)) (K g hr ho)
    · refine r_aload_n (pc := 85) C dX9_nextRow_85 rfl ?_
      refine r_iload (pc := 86) C dX9_nextRow_86 rfl ?_
      refine r_iload (pc := 88) C dX9_nextRow_88 rfl ?_
      refine q_vVf (pc := 90) C kX9_219 dX9_nextRow_90 (c_X9_exchange (a := a) (b := b) (by omega) (by omega)) (s_85 _) rfl rfl (Nat.le_of_ble_eq_true rfl) (by decide) ⟨by decide, by decide⟩ ?_
      have hr2 := hr.sw (a := a) (b := b) (by omega) hb
      refine r_iinc (pc := 93) C (nI (b - 1)) dX9_nextRow_93 rfl (nI_decP b (by omega)) (by decide) rfl ?_
      refine r_iinc (pc := 96) C (nI (a + 1)) dX9_nextRow_96 rfl (nI_inc _) (by decide) rfl ?_
      refine r_goto (pc := 99) C 78 dX9_nextRow_99 (by decide) ?_
      rw [if_pos c82] at hL
      exact ih (a + 1) (b - 1) _ _ (by omega) (by omega) hr2 (fun k2 b2 hk => by rw [u2_row hk, u2_row hk]; exact ho k2 b2 hk) hL (by omega)
set_option maxRecDepth 100000 in
set_option maxHeartbeats 4000000 in
theorem c_X9_nextRow {G : GG} {kn : Nat} {f : MM} {n : Nat} {l : List Nat} (hn : n ≤ 6) (hr : rowIs f 97 n l) : RI G mX9_nextRow 2 kn [.ref (G.1 + 85), .int (nI n)] f (fun v g => (nxtL n l = none ∧ v = 0 ∧ g = f) ∨ ∃ l2, nxtL n l = some l2 ∧ v = 1 ∧ rowIs g 97 n l2 ∧ ∀ k b, k ≠ 97 → g k b = f k b) := by
  refine Ct.of [some (.ref (G.1 + 85)), some (.int (nI n)), none, none, none, none] rfl (by decide +kernel) rfl (Nat.le_of_ble_eq_true rfl) rfl ?_
  intro X C
  by_cases hn0 : n = 0
  · skip
    refine r_iload_n (pc := 0) C dX9_nextRow_0 rfl ?_
    refine r_iconst (pc := 1) C (2) dX9_nextRow_1 (by decide) ?_
    refine r_isub (pc := 2) C dX9_nextRow_2 ?_
    refine q_val (-2) (by rw [hn0]; decide) ?_
    refine r_istore_n (pc := 3) C dX9_nextRow_3 (by decide) rfl ?_
    refine r_iload_n (pc := 4) C dX9_nextRow_4 rfl ?_
    refine r_if_lt (pc := 5) C 31 dX9_nextRow_5 (by decide) (fun c5 => ?_) (fun c5 => ?_)
    · refine r_iload_n (pc := 31) C dX9_nextRow_31 rfl ?_
      refine r_if_ge (pc := 32) C 37 dX9_nextRow_32 (by decide) (fun c32 => ?_) (fun c32 => ?_)
      · exact absurd c32 (by decide)
      · refine r_iconst (pc := 35) C (0) dX9_nextRow_35 (by decide) ?_
        refine q_zret (pc := 36) C dX9_nextRow_36 rfl (Or.inl rfl) ?_
        exact Or.inl ⟨by rw [hn0]; rfl, rfl, rfl⟩
    · exact absurd (by decide) c5
  · skip
    refine r_iload_n (pc := 0) C dX9_nextRow_0 rfl ?_
    refine r_iconst (pc := 1) C (2) dX9_nextRow_1 (by decide) ?_
    refine r_isub (pc := 2) C dX9_nextRow_2 ?_
    refine q_val (nI (n - 1) - 1) (nI_m2 (by omega)) ?_
    refine r_istore_n (pc := 3) C dX9_nextRow_3 (by decide) rfl ?_
    refine v_drop _ (by repeat (first | exact trivial | exact rfl | constructor)) (l_nextRow1 (n := n) (R := kF l (n - 1)) C hn hr (fun hx => ?_) (fun k hx => ?_) (n - 1) (by omega) rfl)
    · skip
      refine r_iload_n (pc := 31) C dX9_nextRow_31 rfl ?_
      refine r_if_ge (pc := 32) C 37 dX9_nextRow_32 (by decide) (fun c32 => ?_) (fun c32 => ?_)
      · exact absurd c32 (by decide)
      · refine r_iconst (pc := 35) C (0) dX9_nextRow_35 (by decide) ?_
        refine q_zret (pc := 36) C dX9_nextRow_36 rfl (Or.inl rfl) ?_
        exact Or.inl ⟨by rw [nxtL, hx], rfl, rfl⟩
    · have hkl := kF_lt hx
      refine r_iload_n (pc := 31) C dX9_nextRow_31 rfl ?_
      refine r_if_ge (pc := 32) C 37 dX9_nextRow_32 (by decide) (fun c32 => ?_) (fun c32 => ?_)
      · refine r_iload_n (pc := 37) C dX9_nextRow_37 rfl ?_
        refine r_iconst (pc := 38) C (1) dX9_nextRow_38 (by decide) ?_
        refine r_isub (pc := 39) C dX9_nextRow_39 ?_
        refine q_is (n - 1) (pk_sub (b := 1) (by omega)) ?_
        refine r_istore_n (pc := 40) C dX9_nextRow_40 (by decide) rfl ?_
        refine v_drop _ (by repeat (first | exact trivial | exact rfl | constructor)) (l_nextRow2 (n := n) (k := k) C hn hr hkl.2 (by omega) ?_ (n - 1) (by omega) (by omega) rfl)
        have hjj := jF_in hkl.2 (n - 1) (by omega)
        refine r_aload_n (pc := 62) C dX9_nextRow_62 rfl ?_
        refine r_iload_n (pc := 63) C dX9_nextRow_63 rfl ?_
        refine r_iload_n (pc := 64) C dX9_nextRow_64 rfl ?_
        refine q_vVf (pc := 65) C kX9_219 dX9_nextRow_65 (c_X9_exchange (a := k) (b := jF l k (n - 1)) (by omega) (by omega)) (s_85 _) rfl rfl (Nat.le_of_ble_eq_true rfl) (by decide) ⟨by decide, by decide⟩ ?_
        have hr2 := hr.sw (a := k) (b := jF l k (n - 1)) (by omega) (by omega)
        refine r_iload_n (pc := 68) C dX9_nextRow_68 rfl ?_
        refine r_iconst (pc := 69) C (1) dX9_nextRow_69 (by decide) ?_
        refine r_isub (pc := 70) C dX9_nextRow_70 ?_
        refine q_is (n - 1) (pk_sub (b := 1) (by omega)) ?_
        refine r_istore (pc := 71) C dX9_nextRow_71 (by decide) rfl ?_
        refine r_iload_n (pc := 73) C dX9_nextRow_73 rfl ?_
        refine r_iconst (pc := 74) C (1) dX9_nextRow_74 (by decide) ?_
        refine r_iadd (pc := 75) C dX9_nextRow_75 ?_
        refine q_is (k + 1) (nI_1 k) ?_
        refine r_istore (pc := 76) C dX9_nextRow_76 (by decide) rfl ?_
        refine v_drop _ (by repeat (first | exact trivial | exact rfl | constructor)) (l_nextRow3 (f := f) (n := n) C hn (fun g3 hg3 ho3 => ?_) n (k + 1) (n - 1) _ _ (by omega) (by omega) hr2 (fun k2 b2 hk => by rw [u2_row hk, u2_row hk]) rfl (by omega))
        have hx2 : nxtL n l = some (rvF n (sw l k (jF l k (n - 1))) (k + 1) (n - 1)) := by rw [nxtL, hx]
        refine r_iconst (pc := 102) C (1) dX9_nextRow_102 (by decide) ?_
        refine q_zret (pc := 103) C dX9_nextRow_103 rfl (Or.inr rfl) ?_
        exact Or.inr ⟨_, hx2, rfl, hg3, ho3⟩
      · exact absurd (nI_pos' (by omega)) c32
