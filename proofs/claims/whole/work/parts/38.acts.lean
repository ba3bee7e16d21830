/-! WAYS THAT ARE KEPT -/
/-- the way at o tells what st tells -/
def WayIs (f : MM) (o : Nat) (st : Nat → Int32) (n L g : Nat) : Prop :=
  (n ≤ 6 ∧ L ≤ 8 ∧ g ≤ L) ∧ (st 13 = nI n ∧ st 8 = nI L ∧ st 9 = nI g) ∧ Pt f (o + 2) n (allI n) g st ∧ f (o + 2) 2 = 63 ∧ f o 3 = nI L ∧
  (∀ j, j < L → f (o + 1) j = st j ∧ 0 ≤ (f (o + 1) j).toInt ∧ (f (o + 1) j).toInt ≤ 9) ∧ (f o 4 = nI g ∧ f o 5 = st 10 ∧ f o 6 = st 11 ∧ f o 7 = st 12) ∧ (0 ≤ (st 11).toInt ∧ (st 11).toInt ≤ 30) ∧ 0 ≤ (st 12).toInt
theorem WayIs.now {f : MM} {n L g : Nat} (h : WayIs f 4 (f 89) n L g) : Now f n L g := by
  obtain ⟨a, b, c, d, e, m, ⟨q1, q2, q3, q4⟩, u, v⟩ := h
  exact ⟨a, c, ⟨e, m⟩, q1, q2, q3, q4, u⟩
theorem Pt.st2 {f : MM} {p n l : Nat} {s : Int32} {st st' : Nat → Int32} (a : Pt f p n s l st) (hn : n ≤ 6) (e : ∀ k, k < 56 → st' k = st k) : Pt f p n s l st' := ⟨a.1, a.2.1, fun w hw j hj => by rw [e _ (by omega)]; exact a.2.2.1 w hw j hj, a.2.2.2⟩
theorem WayIs.mv {f h : MM} {o : Nat} {st st' : Nat → Int32} {n L g : Nat} (a : WayIs f o st n L g) (e : ∀ k, o ≤ k → k < o + 10 → h k = f k) (e2 : ∀ t, t < 56 → st' t = st t) : WayIs h o st' n L g := by
  obtain ⟨a, ⟨b1, b2, b3⟩, c, d, i, m, ⟨q1, q2, q3, q4⟩, u, v⟩ := a
  unfold WayIs
  rw [e o (by omega) (by omega), e (o + 1) (by omega) (by omega), e (o + 2) (by omega) (by omega), e2 13 (by decide), e2 8 (by decide), e2 9 (by decide), e2 10 (by decide), e2 11 (by decide), e2 12 (by decide)]
  refine ⟨a, ⟨b1, b2, b3⟩, (c.congr (fun k h1 h2 => e k (by omega) (by omega)) a.1).st2 a.1 e2, d, i, fun j hj => ?_, ⟨q1, q2, q3, q4⟩, u, v⟩
  rw [e2 j (by omega)]
  exact m j hj
theorem C_wbec_ne {f : MM} {o a n k : Nat} (hn : n ≤ 6) (h : k < o ∨ o + 10 ≤ k) : C_wbec f o a n k = f k := by
  unfold C_wbec
  rw [C_pbec_p (by omega) (by omega), up_ne (by omega), up_ne (by omega)]
theorem C_wbec_o {f : MM} {o a n j : Nat} (h : 2 ≤ j ∧ j < 8) : C_wbec f o a n o j = f a j := by
  unfold C_wbec
  rw [C_pbec_p (by omega) (by omega), up_ne (by omega), up_at]
  exact rowY_in h
theorem C_wbec_1 {f : MM} {o a n j : Nat} (h : j < 8) : C_wbec f o a n (o + 1) j = f (a + 1) j := by
  unfold C_wbec
  rw [C_pbec_p (by omega) (by omega), up_at]
  unfold va_cpy
  rw [if_pos (by omega)]
  simp
theorem WayIs.bec {f : MM} {o a : Nat} {st : Nat → Int32} {n L g : Nat} (h : WayIs f a st n L g) (ap : a + 10 ≤ o ∨ o + 10 ≤ a) : WayIs (C_wbec f o a n) o st n L g := by
  obtain ⟨a1, b1, c, d, i, m, ⟨q1, q2, q3, q4⟩, u, v⟩ := h
  have hp : Pt (va_up (va_up f o (rowY (f o) (f a))) (o + 1) (va_cpy (f (a + 1)) (f (o + 1)) 0 0 8)) (a + 2) n (allI n) g st := c.congr (fun k h1 h2 => by rw [up_ne (by omega), up_ne (by omega)]) a1.1
  refine ⟨a1, b1, hp.pbec, ?_, ?_, fun j hj => ?_, ⟨?_, ?_, ?_, ?_⟩, u, v⟩
  · unfold C_wbec
    rw [C_pbec_0.2, up_ne (by omega), up_ne (by omega)]
    exact d
  · rw [C_wbec_o (by decide)]; exact i
  · rw [C_wbec_1 (by omega)]; exact m j hj
  · rw [C_wbec_o (by decide)]; exact q1
  · rw [C_wbec_o (by decide)]; exact q2
  · rw [C_wbec_o (by decide)]; exact q3
  · rw [C_wbec_o (by decide)]; exact q4
set_option maxRecDepth 100000 in
set_option maxHeartbeats 4000000 in
theorem c_X0_forget {G : GG} {kn : Nat} {f : MM}  : CV G mX0_forget 1 kn [.ref (G.1 + 25)] f (u2 f 25 2 0) := by
  refine Ct.of [some (.ref (G.1 + 25))] rfl (by decide +kernel) rfl (Nat.le_of_ble_eq_true rfl) rfl ?_
  intro X C
  refine r_aload_n (pc := 0) C dX0_forget_0 rfl ?_
  refine r_iconst (pc := 1) C (0) dX0_forget_1 (by decide) ?_
  refine r_put (pc := 2) C fX0_24 ftX0_2 dX0_forget_2 (s_25 _) rfl ?_
  refine q_vret (pc := 5) C dX0_forget_5 rfl ?_
  rfl
theorem rem24 {k : Nat} (h : k < 2000) : nI k - nI k / 24 * 24 = nI (k % 24) := pk_rem (d := 24) (by omega) (by decide) (by decide)
set_option maxRecDepth 100000 in
set_option maxHeartbeats 4000000 in
theorem c_X0_takeBack {G : GG} {kn : Nat} {f : MM} {n q a : Nat} (hq : q < 24) (e1 : f 25 1 = nI q) (e2 : f 25 2 = nI a) (ha : 0 < a) (ha24 : a ≤ 24) (hp : (q + 24 - 1) % 24 < kn) (hn : n ≤ 6) (h1 : f (102 + 10 * ((q + 24 - 1) % 24) + 2) 1 = nI n) (ht : f (102 + 10 * ((q + 24 - 1) % 24)) 2 = 0 ∨ f (102 + 10 * ((q + 24 - 1) % 24)) 2 = 1) : CV G mX0_takeBack 4 kn [.ref (G.1 + 25), .ref (G.1 + 4)] f (u2 (u2 (C_wbec f 4 (102 + 10 * ((q + 24 - 1) % 24)) n) 25 1 (nI ((q + 24 - 1) % 24))) 25 2 (nI (a - 1))) := by
  refine Ct.of [some (.ref (G.1 + 25)), some (.ref (G.1 + 4)), none] rfl (by decide +kernel) rfl (Nat.le_of_ble_eq_true rfl) rfl ?_
  intro X C
  refine r_aload_n (pc := 0) C dX0_takeBack_0 rfl ?_
  refine r_get (pc := 1) C fX0_15 dX0_takeBack_1 (s_25 _) rfl ?_
  refine r_bipush (pc := 4) C (24) dX0_takeBack_4 (by decide) ?_
  refine r_iadd (pc := 6) C dX0_takeBack_6 ?_
  refine q_is (q + 24) (nI_addE e1 rfl) ?_
  refine r_iconst (pc := 7) C (1) dX0_takeBack_7 (by decide) ?_
  refine r_isub (pc := 8) C dX0_takeBack_8 ?_
  refine q_is (q + 24 - 1) (pk_sub (b := 1) (by omega)) ?_
  refine r_bipush (pc := 9) C (24) dX0_takeBack_9 (by decide) ?_
  refine r_irem (pc := 11) C dX0_takeBack_11 (by decide) ?_
  refine q_is ((q + 24 - 1) % 24) (rem24 (by omega)) ?_
  refine r_istore_n (pc := 12) C dX0_takeBack_12 (by decide) rfl ?_
  refine r_aload_n (pc := 13) C dX0_takeBack_13 rfl ?_
  refine r_get (pc := 14) C fX0_24 dX0_takeBack_14 (s_25 _) rfl ?_
  refine q_is a e2 ?_
  refine r_if_eq (pc := 17) C 29 dX0_takeBack_17 (by decide) (fun c17 => ?_) (fun c17 => ?_)
  · exact absurd c17 (fun z => by have := (nIz (by omega)).mp z; omega)
  · refine r_aload_n (pc := 20) C dX0_takeBack_20 rfl ?_
    refine r_getr (pc := 21) C fX0_11 dX0_takeBack_21 (s_25 _) rfl rfl ?_
    refine r_iload_n (pc := 24) C dX0_takeBack_24 rfl ?_
    refine q_aald (pc := 25) C ((q + 24 - 1) % 24) dX0_takeBack_25 (s_26 _) (by decide) (sn_26 _) rfl (Nat.mod_lt _ (by decide)) (by decide) (ka_t hp) ?_
    refine r_ifnonnull (pc := 26) C 30 dX0_takeBack_26 (by decide) ?_
    refine r_aload_n (pc := 30) C dX0_takeBack_30 rfl ?_
    refine r_aload_n (pc := 31) C dX0_takeBack_31 rfl ?_
    refine r_getr (pc := 32) C fX0_11 dX0_takeBack_32 (s_25 _) rfl rfl ?_
    refine r_iload_n (pc := 35) C dX0_takeBack_35 rfl ?_
    refine q_aald (pc := 36) C ((q + 24 - 1) % 24) dX0_takeBack_36 (s_26 _) (by decide) (sn_26 _) rfl (Nat.mod_lt _ (by decide)) (by decide) (ka_t hp) ?_
    refine q_vVf (pc := 37) C kX0_20 dX0_takeBack_37 (c_X7_become (n := n) isW.now (isW.kept hp) (by omega) hn h1 ht) (w_0 isW.now) rfl rfl (Nat.le_of_ble_eq_true rfl) (by decide) ⟨by decide, by decide⟩ ?_
    refine r_aload_n (pc := 40) C dX0_takeBack_40 rfl ?_
    refine r_iload_n (pc := 41) C dX0_takeBack_41 rfl ?_
    refine r_put (pc := 42) C fX0_15 ftX0_1 dX0_takeBack_42 (s_25 _) rfl ?_
    refine r_aload_n (pc := 45) C dX0_takeBack_45 rfl ?_
    refine r_dup (pc := 46) C dX0_takeBack_46 rfl ?_
    refine r_get (pc := 47) C fX0_24 dX0_takeBack_47 (s_25 _) rfl ?_
    refine r_iconst (pc := 50) C (1) dX0_takeBack_50 (by decide) ?_
    refine r_isub (pc := 51) C dX0_takeBack_51 ?_
    refine q_is (a - 1) (by rw [show u2 (C_wbec f 4 (102 + 10 * ((q + 24 - 1) % 24)) n) 25 1 (nI ((q + 24 - 1) % 24)) 25 2 = nI a by simp only [u2]; simp; rw [C_wbec_ne hn (by omega)]; exact e2]; exact pk_sub (b := 1) (by omega)) ?_
    refine r_put (pc := 52) C fX0_24 ftX0_2 dX0_takeBack_52 (s_25 _) rfl ?_
    refine q_vret (pc := 55) C dX0_takeBack_55 rfl ?_
    rfl
def keptF (f : MM) (q n a : Nat) : MM := u2 (u2 (C_wbec f (102 + 10 * q) 4 n) 25 1 (nI ((q + 1) % 24))) 25 2 (nI (min (a + 1) 24))
def PoKeep (kn : Nat) (f : MM) (q n a : Nat) : PoT := fun r N sh g => ∃ kn', r = none ∧ N = NN kn' ∧ sh = shF kn' ∧ kn' ≤ 24 ∧ q < kn' ∧ ((kn' = kn ∧ q < kn) ∨ (kn' = kn + 1 ∧ q = kn)) ∧ ∃ f0, (∀ k, k < NN kn → f0 k = f k) ∧ g = keptF f0 q n a
theorem min24 {a : Nat} (ha : a ≤ 24) : (if (24 : Int32) < nI (a + 1) then 24 else nI (a + 1)) = nI (min (a + 1) 24) := by
  have e : (24 : Int32) = nI 24 := rfl
  rw [e]
  by_cases h : a = 24
  · subst h; rfl
  · rw [if_neg (by rw [nI_ltI (by omega) (by omega)]; omega), Nat.min_eq_left (by omega)]
set_option maxRecDepth 100000 in
set_option maxHeartbeats 4000000 in
theorem c_X0_keep {G : GG} {kn : Nat} {f : MM} {n q a : Nat} (hkn : kn ≤ 24) (hq : q < 24) (hqk : q ≤ kn) (e1 : f 25 1 = nI q) (e2 : f 25 2 = nI a) (ha : a ≤ 24) (hn : n ≤ 6) (h1 : f 6 1 = nI n) (ht : f 4 2 = 0 ∨ f 4 2 = 1) : Ct G mX0_keep 4 10 67 [.ref (G.1 + 25), .ref (G.1 + 4)] (NN kn) (shF kn) f (PoKeep kn f q n a) := by
  refine Ct.of [some (.ref (G.1 + 25)), some (.ref (G.1 + 4))] rfl (by decide +kernel) rfl (Nat.le_of_ble_eq_true rfl) rfl ?_
  intro X C
  rcases Nat.lt_or_ge q kn with hqk2 | hqk2
  · have hq2 : q < kn := hqk2
    refine r_aload_n (pc := 0) C dX0_keep_0 rfl ?_
    refine r_getr (pc := 1) C fX0_11 dX0_keep_1 (s_25 _) rfl rfl ?_
    refine r_aload_n (pc := 4) C dX0_keep_4 rfl ?_
    refine r_get (pc := 5) C fX0_15 dX0_keep_5 (s_25 _) rfl ?_
    refine q_aald (pc := 8) C q dX0_keep_8 (s_26 _) (by decide) (sn_26 _) e1 (by omega) (by decide) (ka_t hq2) ?_
    refine r_ifnonnull (pc := 9) C 28 dX0_keep_9 (by decide) ?_
    refine r_aload_n (pc := 28) C dX0_keep_28 rfl ?_
    refine r_getr (pc := 29) C fX0_11 dX0_keep_29 (s_25 _) rfl rfl ?_
    refine r_aload_n (pc := 32) C dX0_keep_32 rfl ?_
    refine r_get (pc := 33) C fX0_15 dX0_keep_33 (s_25 _) rfl ?_
    refine q_aald (pc := 36) C q dX0_keep_36 (s_26 _) (by decide) (sn_26 _) (e1) (by omega) (by decide) (ka_t hq2) ?_
    refine r_aload_n (pc := 37) C dX0_keep_37 rfl ?_
    refine q_vVf (pc := 38) C kX0_20 dX0_keep_38 (c_X7_become (kn := kn) (n := n) (isW.kept hq2) isW.now (by omega) hn h1 ht) (w_0 (isW.kept hq2)) rfl rfl (Nat.le_of_ble_eq_true rfl) (by decide) ⟨by decide, by decide⟩ ?_
    refine r_aload_n (pc := 41) C dX0_keep_41 rfl ?_
    refine r_aload_n (pc := 42) C dX0_keep_42 rfl ?_
    refine r_get (pc := 43) C fX0_15 dX0_keep_43 (s_25 _) rfl ?_
    refine r_iconst (pc := 46) C (1) dX0_keep_46 (by decide) ?_
    refine r_iadd (pc := 47) C dX0_keep_47 ?_
    refine q_is (q + 1) (nI_addE (by rw [C_wbec_ne hn (by omega)]; exact e1) rfl) ?_
    refine r_bipush (pc := 48) C (24) dX0_keep_48 (by decide) ?_
    refine r_irem (pc := 50) C dX0_keep_50 (by decide) ?_
    refine q_is ((q + 1) % 24) (rem24 (by omega)) ?_
    refine r_put (pc := 51) C fX0_15 ftX0_1 dX0_keep_51 (s_25 _) rfl ?_
    refine r_aload_n (pc := 54) C dX0_keep_54 rfl ?_
    refine r_aload_n (pc := 55) C dX0_keep_55 rfl ?_
    refine r_get (pc := 56) C fX0_24 dX0_keep_56 (s_25 _) rfl ?_
    refine q_is a (by simp only [u2]; simp; rw [C_wbec_ne hn (by omega)]; exact e2) ?_
    refine r_iconst (pc := 59) C (1) dX0_keep_59 (by decide) ?_
    refine r_iadd (pc := 60) C dX0_keep_60 ?_
    refine q_is (a + 1) (nI_add a 1) ?_
    refine r_bipush (pc := 61) C (24) dX0_keep_61 (by decide) ?_
    refine r_mmin (pc := 63) C kX0_27 dX0_keep_63 (by decide) (Nat.le_of_ble_eq_true rfl) ⟨by decide, by decide⟩ kmX0_27 ?_
    refine q_val (nI (min (a + 1) 24)) (min24 ha) ?_
    refine r_put (pc := 66) C fX0_24 ftX0_2 dX0_keep_66 (s_25 _) rfl ?_
    refine r_vret (pc := 69) C dX0_keep_69 rfl ⟨by decide, by decide⟩ ?_
    exact ⟨kn, rfl, rfl, rfl, hkn, hq2, Or.inl ⟨rfl, hq2⟩, f, fun _ _ => rfl, rfl⟩
  · obtain rfl : q = kn := by omega
    refine r_aload_n (pc := 0) C dX0_keep_0 rfl ?_
    refine r_getr (pc := 1) C fX0_11 dX0_keep_1 (s_25 _) rfl rfl ?_
    refine r_aload_n (pc := 4) C dX0_keep_4 rfl ?_
    refine r_get (pc := 5) C fX0_15 dX0_keep_5 (s_25 _) rfl ?_
    refine q_is q e1 ?_
    refine r_aaldN (b := 2) (pc := 8) C dX0_keep_8 (s_26 _) (by decide) (sn_26 _) (vp_in_nI (by omega) (by decide)) (by rw [nI_clamp (by omega)]; exact ka_n (Nat.le_refl _)) ?_
    refine r_ifnonnullN (pc := 9) C dX0_keep_9 ?_
    refine r_aload_n (pc := 12) C dX0_keep_12 rfl ?_
    refine r_getr (pc := 13) C fX0_11 dX0_keep_13 (s_25 _) rfl rfl ?_
    refine r_aload_n (pc := 16) C dX0_keep_16 rfl ?_
    refine r_get (pc := 17) C fX0_15 dX0_keep_17 (s_25 _) rfl ?_
    refine q_is q e1 ?_
    refine r_new (ci := 7) (pc := 20) C wClX0_9 wInX7 wIzX7 rfl inG_X7 tyX7_ok dfX7 dX0_keep_20 ⟨by decide, by decide⟩ ?_
    refine r_dup (pc := 23) C dX0_keep_23 rfl ?_
    refine r_calli (pc := 24) C kX0_19 dX0_keep_24 (n_X7 (o := NN q) (va_up_self _ _ _) (va_up_self _ _ _)) rfl rfl (Nat.le_of_ble_eq_true rfl) (by decide) ⟨by decide, by decide⟩ (fun r24 N24 s24 f24 h24 => ?_)
    obtain ⟨rfl, rfl, a24, b24⟩ := h24
    have nq : NN q = 102 + 10 * q := rfl
    have hs24 : ∀ k, k < NN q → s24 k = shF q k := fun k hk => by rw [(a24 k hk).1, va_up_ne _ _ (by omega)]
    have hf24 : ∀ k, k < NN q → f24 k = f k := fun k hk => by rw [(a24 k hk).2, va_up_ne _ _ (by omega)]
    refine r_aast (pc := 27) (b := 2) (ci := 7) (n := 24) (t := NN q) C dX0_keep_27 ⟨by omega, by rw [hs24 26 (by omega)]; rfl⟩ (by rw [hs24 26 (by omega)]; rfl) rfl (vp_in_nI (by omega) (by decide)) ⟨by omega, by have z := (b24 0 (by omega)).1; rw [Nat.add_zero] at z; rw [z]; rfl⟩ rfl ?_
    rw [nI_clamp (show q < 2147483648 by omega)]
    refine v_N (N' := NN (q + 1)) (by simp only [NN]; omega) ?_
    refine v_eqW (sh' := shF (q + 1)) (f' := f24) (fun k hk => ⟨?_, rfl⟩) ?_
    · by_cases e : k = 26
      · subst e
        rw [va_up_self, hs24 26 (by omega)]
        refine Prod.ext rfl (Prod.ext rfl ?_)
        funext j
        show (if j = q then some (NN q) else if j < q then some (102 + 10 * j) else none) = if j < q + 1 then some (102 + 10 * j) else none
        by_cases z : j = q
        · rw [if_pos z, if_pos (by omega), z]; rfl
        · rw [if_neg z]
          by_cases z2 : j < q
          · rw [if_pos z2, if_pos (by omega)]
          · rw [if_neg z2, if_neg (by omega)]
      · rw [va_up_ne _ _ e]
        by_cases z : k < NN q
        · rw [hs24 k z]
          unfold shF
          simp only [if_neg e]
        · obtain ⟨d, rfl⟩ : ∃ d, k = NN q + d := ⟨k - NN q, by omega⟩
          have hk2 : d < 10 := by simp only [NN] at hk ⊢; omega
          rw [(b24 d hk2).1]
          exact ((isW.kept (kn := q + 1) (Nat.lt_succ_self q)).sh hk2).2.symm
    have hq2 : q < q + 1 := Nat.lt_succ_self q
    have e1b : f24 25 1 = nI q := by rw [hf24 25 (by omega)]; exact e1
    have e2b : f24 25 2 = nI a := by rw [hf24 25 (by omega)]; exact e2
    have h1b : f24 6 1 = nI n := by rw [hf24 6 (by omega)]; exact h1
    have htb : f24 4 2 = 0 ∨ f24 4 2 = 1 := by rw [hf24 4 (by omega)]; exact ht
    refine r_aload_n (pc := 28) C dX0_keep_28 rfl ?_
    refine r_getr (pc := 29) C fX0_11 dX0_keep_29 (s_25 _) rfl rfl ?_
    refine r_aload_n (pc := 32) C dX0_keep_32 rfl ?_
    refine r_get (pc := 33) C fX0_15 dX0_keep_33 (s_25 _) rfl ?_
    refine q_aald (pc := 36) C q dX0_keep_36 (s_26 _) (by decide) (sn_26 _) (e1b) (by omega) (by decide) (ka_t hq2) ?_
    refine r_aload_n (pc := 37) C dX0_keep_37 rfl ?_
    refine q_vVf (pc := 38) C kX0_20 dX0_keep_38 (c_X7_become (kn := q + 1) (n := n) (isW.kept hq2) isW.now (by omega) hn h1b htb) (w_0 (isW.kept hq2)) rfl rfl (Nat.le_of_ble_eq_true rfl) (by decide) ⟨by decide, by decide⟩ ?_
    refine r_aload_n (pc := 41) C dX0_keep_41 rfl ?_
    refine r_aload_n (pc := 42) C dX0_keep_42 rfl ?_
    refine r_get (pc := 43) C fX0_15 dX0_keep_43 (s_25 _) rfl ?_
    refine r_iconst (pc := 46) C (1) dX0_keep_46 (by decide) ?_
    refine r_iadd (pc := 47) C dX0_keep_47 ?_
    refine q_is (q + 1) (nI_addE (by rw [C_wbec_ne hn (by omega)]; exact e1b) rfl) ?_
    refine r_bipush (pc := 48) C (24) dX0_keep_48 (by decide) ?_
    refine r_irem (pc := 50) C dX0_keep_50 (by decide) ?_
    refine q_is ((q + 1) % 24) (rem24 (by omega)) ?_
    refine r_put (pc := 51) C fX0_15 ftX0_1 dX0_keep_51 (s_25 _) rfl ?_
    refine r_aload_n (pc := 54) C dX0_keep_54 rfl ?_
    refine r_aload_n (pc := 55) C dX0_keep_55 rfl ?_
    refine r_get (pc := 56) C fX0_24 dX0_keep_56 (s_25 _) rfl ?_
    refine q_is a (by simp only [u2]; simp; rw [C_wbec_ne hn (by omega)]; exact e2b) ?_
    refine r_iconst (pc := 59) C (1) dX0_keep_59 (by decide) ?_
    refine r_iadd (pc := 60) C dX0_keep_60 ?_
    refine q_is (a + 1) (nI_add a 1) ?_
    refine r_bipush (pc := 61) C (24) dX0_keep_61 (by decide) ?_
    refine r_mmin (pc := 63) C kX0_27 dX0_keep_63 (by decide) (Nat.le_of_ble_eq_true rfl) ⟨by decide, by decide⟩ kmX0_27 ?_
    refine q_val (nI (min (a + 1) 24)) (min24 ha) ?_
    refine r_put (pc := 66) C fX0_24 ftX0_2 dX0_keep_66 (s_25 _) rfl ?_
    refine r_vret (pc := 69) C dX0_keep_69 rfl ⟨by decide, by decide⟩ ?_
    exact ⟨q + 1, rfl, rfl, rfl, by omega, hq2, Or.inr ⟨rfl, rfl⟩, f24, hf24, rfl⟩
