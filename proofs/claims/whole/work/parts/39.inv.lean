/-! CLASS AND REFERENCE SIDE BY SIDE -/
def RowI (f : MM) (r : Nat) : Prop := (f (49 + 2 * r) 1 = 1 ∧ f 87 r = -1) ∨ (f (49 + 2 * r) 1 = 0 ∧ ∃ m, m ≤ 40 ∧ f 87 r = nI m ∧ f (49 + 2 * r) 3 = nI m ∧ f (49 + 2 * r) 2 = f 86 r ∧ ∀ b, b < 40 → f (50 + 2 * r) b = f 88 (40 * r + b))
def IRow (f : MM) : Prop := ∀ r, r < 8 → RowI f r
def ITap (f : MM) : Prop := f 3 = f 91 ∧ ∃ len, len ≤ 120 ∧ f 2 1 = nI len ∧ f 85 8 = nI len
def INow (f : MM) : Prop := ∃ n L g, WayIs f 4 (f 89) n L g
def ITold (f : MM) : Prop := f 4 2 = f 85 4 ∧ (f 4 2 = 0 ∨ f 4 2 = 1)
def ISpa (f : MM) : Prop := f 14 4 = 0 ∧ f 16 2 = 63 ∧ ∀ w, w < 6 → f (18 + w) 3 = 0 ∧ f (18 + w) 4 = 0 ∧ f (18 + w) 5 = 0
def IImg (f : MM) : Prop := ∀ k, k < 2 → f 99 k = f (65 + 10 * k) 2 ∧ (f 99 k = 0 ∨ (f 99 k = 1 ∧ f 85 4 = 1 ∧ ∃ n L g, WayIs f (65 + 10 * k) (fun t => f 100 (56 * k + t)) n L g))
def rg (q a i : Nat) : Nat := (q + 24 - a + i) % 24
def ActI (kn : Nat) (f : MM) (a q : Nat) : Prop := (a ≤ 24 ∧ q < 24 ∧ kn ≤ 24) ∧ (kn < 24 → a ≤ q ∧ q ≤ kn) ∧ (f 25 1 = nI q ∧ f 25 2 = nI a ∧ f 85 18 = nI a) ∧ (0 < a → f 85 4 = 1) ∧ ∀ i, i < a → f (102 + 10 * rg q a i) 2 = 1 ∧ ∃ n L g, WayIs f (102 + 10 * rg q a i) (fun t => f 93 (56 * i + t)) n L g
def IAct (kn : Nat) (f : MM) : Prop := ∃ a q, ActI kn f a q
def IAsk (f : MM) : Prop := ∃ t, t ≤ 16 ∧ f 47 1 = nI t ∧ f 85 27 = nI t ∧ ∀ i, i < t → f 48 i = f 101 i
def IZero (f : MM) : Prop := f 85 4 = 0 → f 6 1 = 0
def Inv (kn : Nat) (f : MM) : Prop := IRow f ∧ f 0 8 = f 85 3 ∧ ITap f ∧ f 2 8 = f 85 9 ∧ INow f ∧ ITold f ∧ ISpa f ∧ IImg f ∧ IAct kn f ∧ IAsk f ∧ IZero f
section IV
variable {kn : Nat} {f : MM}
theorem Inv.row (I : Inv kn f) : IRow f := I.1
theorem Inv.fin (I : Inv kn f) : f 0 8 = f 85 3 := I.2.1
theorem Inv.tap (I : Inv kn f) : ITap f := I.2.2.1
theorem Inv.flt (I : Inv kn f) : f 2 8 = f 85 9 := I.2.2.2.1
theorem Inv.now (I : Inv kn f) : INow f := I.2.2.2.2.1
theorem Inv.told (I : Inv kn f) : ITold f := I.2.2.2.2.2.1
theorem Inv.spa (I : Inv kn f) : ISpa f := I.2.2.2.2.2.2.1
theorem Inv.img (I : Inv kn f) : IImg f := I.2.2.2.2.2.2.2.1
theorem Inv.act (I : Inv kn f) : IAct kn f := I.2.2.2.2.2.2.2.2.1
theorem Inv.ask (I : Inv kn f) : IAsk f := I.2.2.2.2.2.2.2.2.2.1
theorem Inv.zero (I : Inv kn f) : IZero f := I.2.2.2.2.2.2.2.2.2.2
end IV
section IC
variable {kn : Nat} {f h : MM}
theorem RowI.here {r : Nat} (a : RowI f r) (c : f (49 + 2 * r) 1 = 0) : ∃ m, m ≤ 40 ∧ f 87 r = nI m ∧ f (49 + 2 * r) 3 = nI m ∧ f (49 + 2 * r) 2 = f 86 r ∧ ∀ b, b < 40 → f (50 + 2 * r) b = f 88 (40 * r + b) := by
  rcases a with a | a
  · rw [a.1] at c; exact absurd c (by decide)
  · exact a.2
theorem RowI.gone {r : Nat} (a : RowI f r) (c : ¬ f (49 + 2 * r) 1 = 0) : f 87 r = -1 := by
  rcases a with a | a
  · exact a.2
  · exact absurd a.1 c
theorem RowI.cg {r : Nat} (a : RowI f r) (e1 : h (49 + 2 * r) = f (49 + 2 * r)) (e2 : h (50 + 2 * r) = f (50 + 2 * r)) (e3 : h 86 r = f 86 r) (e4 : h 87 r = f 87 r) (e5 : ∀ b, b < 40 → h 88 (40 * r + b) = f 88 (40 * r + b)) : RowI h r := by
  unfold RowI
  rw [e1, e2, e3, e4]
  rcases a with a | ⟨b0, m, b1, b2, b3, b4, b5⟩
  · exact Or.inl a
  · exact Or.inr ⟨b0, m, b1, b2, b3, b4, fun b hb => by rw [e5 b hb]; exact b5 b hb⟩
theorem IRow.cg (a : IRow f) (e : ∀ k, (49 ≤ k ∧ k < 65) ∨ (86 ≤ k ∧ k ≤ 88) → h k = f k) : IRow h := fun r hr => (a r hr).cg (e _ (by omega)) (e _ (by omega)) (by rw [e 86 (by omega)]) (by rw [e 87 (by omega)]) (fun b _ => by rw [e 88 (by omega)])
theorem IRow.sz (a : IRow f) : szOK f := fun j hj => by
  rcases a j hj with b | ⟨-, m, b1, b2, -⟩
  · exact Or.inl b.2
  · exact Or.inr ⟨m, b1, b2⟩
theorem ITap.cg (a : ITap f) (e3 : h 3 = f 3) (e91 : h 91 = f 91) (e2 : h 2 1 = f 2 1) (e8 : h 85 8 = f 85 8) : ITap h := by
  unfold ITap
  rw [e3, e91, e2, e8]
  exact a
theorem INow.cg (a : INow f) (e : ∀ k, 4 ≤ k → k < 14 → h k = f k) (e89 : ∀ t, t < 56 → h 89 t = f 89 t) : INow h := by
  obtain ⟨n, L, g, w⟩ := a
  exact ⟨n, L, g, w.mv e e89⟩
theorem ITold.cg (a : ITold f) (e : h 4 2 = f 4 2) (e2 : h 85 4 = f 85 4) : ITold h := by
  unfold ITold
  rw [e, e2]
  exact a
theorem ISpa.cg (a : ISpa f) (e : ∀ k, 14 ≤ k → k < 24 → h k = f k) : ISpa h := by
  refine ⟨by rw [e 14 (by omega) (by omega)]; exact a.1, by rw [e 16 (by omega) (by omega)]; exact a.2.1, fun w hw => ?_⟩
  rw [e (18 + w) (by omega) (by omega)]
  exact a.2.2 w hw
theorem IImg.cg (a : IImg f) (e : ∀ k, 65 ≤ k → k < 85 → h k = f k) (e99 : h 99 = f 99) (e100 : h 100 = f 100) (e4 : h 85 4 = f 85 4 ∨ h 85 4 = 1) : IImg h := by
  intro k hk
  obtain ⟨b1, b2⟩ := a k hk
  rw [e99, e (65 + 10 * k) (by omega) (by omega)]
  refine ⟨b1, ?_⟩
  rcases b2 with b2 | ⟨b2, b3, n, L, g, w⟩
  · exact Or.inl b2
  · exact Or.inr ⟨b2, by rcases e4 with e4 | e4 <;> rw [e4]; exact b3, n, L, g, w.mv (fun k h1 h2 => e k (by omega) (by omega)) (fun t _ => by rw [e100])⟩
theorem IAct.cg (a : IAct kn f) (e : ∀ k, 102 ≤ k → h k = f k) (e25 : h 25 = f 25) (e93 : h 93 = f 93) (e18 : h 85 18 = f 85 18) (e4 : h 85 4 = f 85 4) : IAct kn h := by
  obtain ⟨a, q, b1, b2, b3, b4, b5⟩ := a
  refine ⟨a, q, b1, b2, ?_, ?_, fun i hi => ?_⟩
  · rw [e25, e18]; exact b3
  · rw [e4]; exact b4
  · obtain ⟨c1, n, L, g, w⟩ := b5 i hi
    rw [e _ (by omega)]
    exact ⟨c1, n, L, g, w.mv (fun k h1 h2 => e k (by omega)) (fun t _ => by rw [e93])⟩
theorem IAct.no (a : IAct kn f) (e1 : h 25 1 = f 25 1) (e2 : h 25 2 = 0) (e18 : h 85 18 = 0) : IAct kn h := by
  obtain ⟨a, q, b1, b2, b3, b4, b5⟩ := a
  exact ⟨0, q, ⟨by omega, b1.2.1, b1.2.2⟩, fun z => ⟨by omega, (b2 z).2⟩, ⟨e1.trans b3.1, e2.trans nI_0.symm, e18.trans nI_0.symm⟩, fun z => by omega, fun i hi => by omega⟩
theorem IAsk.cg (a : IAsk f) (e47 : h 47 = f 47) (e48 : h 48 = f 48) (e101 : h 101 = f 101) (e27 : h 85 27 = f 85 27) : IAsk h := by
  unfold IAsk
  rw [e47, e48, e101, e27]
  exact a
theorem IZero.cg (a : IZero f) (e6 : h 6 = f 6) (e4 : h 85 4 = f 85 4) : IZero h := fun z => by rw [e6]; exact a (by rw [← e4]; exact z)
/-- what is foretold changes nothing of it -/
theorem Inv.cg (I : Inv kn f) (e : ∀ k, (k < 27 ∨ 47 ≤ k) → k ≠ 85 → k ≠ 90 → k ≠ 92 → ¬ (94 ≤ k ∧ k ≤ 98) → h k = f k) (e85 : ∀ b, (b = 3 ∨ b = 4 ∨ b = 8 ∨ b = 9 ∨ b = 18 ∨ b = 27) → h 85 b = f 85 b) : Inv kn h := by
  have E : ∀ k, (k < 27 ∨ 47 ≤ k) → k < 85 → h k = f k := fun k h1 h2 => e k h1 (by omega) (by omega) (by omega) (by omega)
  refine ⟨I.row.cg (fun k hk => e k (by omega) (by omega) (by omega) (by omega) (by omega)), ?_, I.tap.cg (E 3 (by omega) (by omega)) (e 91 (by omega) (by omega) (by omega) (by omega) (by omega)) (by rw [E 2 (by omega) (by omega)]) (e85 8 (by omega)), ?_, I.now.cg (fun k h1 h2 => E k (by omega) (by omega)) (fun t _ => by rw [e 89 (by omega) (by omega) (by omega) (by omega) (by omega)]), I.told.cg (by rw [E 4 (by omega) (by omega)]) (e85 4 (by omega)), I.spa.cg (fun k h1 h2 => E k (by omega) (by omega)), I.img.cg (fun k h1 h2 => E k (by omega) (by omega)) (e 99 (by omega) (by omega) (by omega) (by omega) (by omega)) (e 100 (by omega) (by omega) (by omega) (by omega) (by omega)) (Or.inl (e85 4 (by omega))), I.act.cg (fun k hk => e k (by omega) (by omega) (by omega) (by omega) (by omega)) (E 25 (by omega) (by omega)) (e 93 (by omega) (by omega) (by omega) (by omega) (by omega)) (e85 18 (by omega)) (e85 4 (by omega)), I.ask.cg (E 47 (by omega) (by omega)) (E 48 (by omega) (by omega)) (e 101 (by omega) (by omega) (by omega) (by omega) (by omega)) (e85 27 (by omega)), I.zero.cg (E 6 (by omega) (by omega)) (e85 4 (by omega))⟩
  · rw [E 0 (by omega) (by omega), e85 3 (by omega)]; exact I.fin
  · rw [E 2 (by omega) (by omega), e85 9 (by omega)]; exact I.flt
theorem Inv.fore {g : MM} (I : Inv kn f) (a : agC f g) (b : agF g h) : Inv kn h := by
  refine I.cg (fun k h1 h2 h3 h4 h5 => ?_) (fun b' hb => ?_)
  · funext t
    rw [b k t (by omega) h5, a k h1]
  · rw [b 85 b' (by omega) (by omega), a 85 (by omega)]
end IC
set_option maxRecDepth 100000 in
set_option maxHeartbeats 4000000 in
theorem c_X8_found {G : GG} {kn : Nat} {f : MM} {a : Int32} : CI G mX8_found 1 kn [.ref (G.1 + 0), .int a] f (-1000010 - a) (u2 f 0 8 a) := by
  refine Ct.of [some (.ref (G.1 + 0)), some (.int a)] rfl (by decide +kernel) rfl (Nat.le_of_ble_eq_true rfl) rfl ?_
  intro X C
  refine r_aload_n (pc := 0) C dX8_found_0 rfl ?_
  refine r_iload_n (pc := 1) C dX8_found_1 rfl ?_
  refine r_put (pc := 2) C fX8_254 ftX8_8 dX8_found_2 (s_0 _) rfl ?_
  refine r_ldc_w (pc := 5) C (-1000010) kX8_257 dX8_found_5 ?_
  refine r_iload_n (pc := 8) C dX8_found_8 rfl ?_
  refine r_isub (pc := 9) C dX8_found_9 ?_
  refine q_iret (pc := 10) C dX8_found_10 rfl ?_
  exact ⟨rfl, rfl⟩
set_option maxRecDepth 100000 in
set_option maxHeartbeats 4000000 in
theorem c_X8_foundNothing {G : GG} {kn : Nat} {f : MM} {a : Int32} : CI G mX8_foundNothing 1 kn [.ref (G.1 + 0), .int a] f a (u2 f 0 8 0) := by
  refine Ct.of [some (.ref (G.1 + 0)), some (.int a)] rfl (by decide +kernel) rfl (Nat.le_of_ble_eq_true rfl) rfl ?_
  intro X C
  refine r_aload_n (pc := 0) C dX8_foundNothing_0 rfl ?_
  refine r_iconst (pc := 1) C (0) dX8_foundNothing_1 (by decide) ?_
  refine r_put (pc := 2) C fX8_254 ftX8_8 dX8_foundNothing_2 (s_0 _) rfl ?_
  refine r_iload_n (pc := 5) C dX8_foundNothing_5 rfl ?_
  refine q_iret (pc := 6) C dX8_foundNothing_6 rfl ?_
  exact ⟨rfl, rfl⟩
set_option maxRecDepth 100000 in
set_option maxHeartbeats 4000000 in
theorem c_X8_isWalker {G : GG} {kn : Nat} {f : MM} {n : Nat} (hn : n ≤ 6) (h1 : f 6 1 = nI n) {a : Int32} : CI G mX8_isWalker 2 kn [.ref (G.1 + 0), .int a] f (b1 (inR a n)) f := by
  refine Ct.of [some (.ref (G.1 + 0)), some (.int a)] rfl (by decide +kernel) rfl (Nat.le_of_ble_eq_true rfl) rfl ?_
  intro X C
  refine r_iload_n (pc := 0) C dX8_isWalker_0 rfl ?_
  refine r_aload_n (pc := 1) C dX8_isWalker_1 rfl ?_
  refine r_getr (pc := 2) C fX8_25 dX8_isWalker_2 (s_0 _) rfl rfl ?_
  refine r_getr (pc := 5) C fX8_124 dX8_isWalker_5 (w_0 isW.now) rfl (w_t1 isW.now) ?_
  refine r_get (pc := 8) C fX8_128 dX8_isWalker_8 (p_0 (isP.way isW.now)) rfl ?_
  refine q_sIf (pc := 11) C kX8_58 dX8_isWalker_11 (c_blw n h1 (by omega)) rfl rfl (Nat.le_of_ble_eq_true rfl) (by decide) ⟨by decide, by decide⟩ ?_
  refine q_zret (pc := 14) C dX8_isWalker_14 rfl (b1_z _) ?_
  exact ⟨rfl, rfl⟩
def CR_row (f : MM) (r l n : Int32) : MM := if inR r 8 = true then if inR l 3 = true then if n ≤ 40 then if 0 ≤ n then u2 (C_make f (tn r) l n) 0 8 0 else u2 f 0 8 4 else f else f else f
set_option maxRecDepth 100000 in
set_option maxHeartbeats 4000000 in
theorem c_X8_row {G : GG} {kn : Nat} {f : MM} {a b c : Int32} : CI G mX8_row 2 kn [.ref (G.1 + 0), .int a, .int b, .int c] f (R_row f a b c).1 (CR_row f a b c) := by
  refine Ct.of [some (.ref (G.1 + 0)), some (.int a), some (.int b), some (.int c)] rfl (by decide +kernel) rfl (Nat.le_of_ble_eq_true rfl) rfl ?_
  intro X C
  refine r_iload_n (pc := 0) C dX8_row_0 rfl ?_
  refine r_bipush (pc := 1) C (8) dX8_row_1 (by decide) ?_
  refine q_sIf (pc := 3) C kX8_58 dX8_row_3 (c_blw 8 rfl (by decide)) rfl rfl (Nat.le_of_ble_eq_true rfl) (by decide) ⟨by decide, by decide⟩ ?_
  refine r_if_eq (pc := 6) C 23 dX8_row_6 (by decide) (fun c6 => ?_) (fun c6 => ?_)
  · replace c6 := b1_0 c6
    refine r_ldc (pc := 23) C (-1000001) kX8_62 dX8_row_23 ?_
    refine q_iret (pc := 25) C dX8_row_25 rfl ?_
    exact ⟨by simp [R_row, c6], by simp [CR_row, c6]⟩
  · replace c6 := b1_1 c6
    obtain ⟨j, hj, rfl⟩ := inR_of c6
    have tj : tn (nI j) = j := tn_nI (by omega)
    refine r_iload_n (pc := 9) C dX8_row_9 rfl ?_
    refine r_iconst (pc := 10) C (3) dX8_row_10 (by decide) ?_
    refine q_sIf (pc := 11) C kX8_58 dX8_row_11 (c_blw 3 rfl (by decide)) rfl rfl (Nat.le_of_ble_eq_true rfl) (by decide) ⟨by decide, by decide⟩ ?_
    refine r_if_eq (pc := 14) C 23 dX8_row_14 (by decide) (fun c14 => ?_) (fun c14 => ?_)
    · replace c14 := b1_0 c14
      refine r_ldc (pc := 23) C (-1000001) kX8_62 dX8_row_23 ?_
      refine q_iret (pc := 25) C dX8_row_25 rfl ?_
      exact ⟨by simp [R_row, c6, tj, c14], by simp [CR_row, c6, tj, c14]⟩
    · replace c14 := b1_1 c14
      refine r_iload_n (pc := 17) C dX8_row_17 rfl ?_
      refine r_bipush (pc := 18) C (40) dX8_row_18 (by decide) ?_
      refine r_icmp_le (pc := 20) C 26 dX8_row_20 (by decide) (fun c20 => ?_) (fun c20 => ?_)
      · refine r_iload_n (pc := 26) C dX8_row_26 rfl ?_
        refine r_if_ge (pc := 27) C 36 dX8_row_27 (by decide) (fun c27 => ?_) (fun c27 => ?_)
        · refine r_aload_n (pc := 36) C dX8_row_36 rfl ?_
          refine r_getr (pc := 37) C fX8_11 dX8_row_37 (s_0 _) rfl rfl ?_
          refine r_iload_n (pc := 40) C dX8_row_40 rfl ?_
          refine q_aald (pc := 41) C j dX8_row_41 (s_1 _) (by decide) (sn_1 _) rfl (by omega) (by decide) (ra_t (by omega)) ?_
          refine r_iload_n (pc := 42) C dX8_row_42 rfl ?_
          refine r_iload_n (pc := 43) C dX8_row_43 rfl ?_
          refine q_vVf (pc := 44) C kX8_67 dX8_row_44 (c_X5_make (r := j) hj) (x_0 (by omega)) rfl rfl (Nat.le_of_ble_eq_true rfl) (by decide) ⟨by decide, by decide⟩ ?_
          refine r_aload_n (pc := 47) C dX8_row_47 rfl ?_
          refine r_iload_n (pc := 48) C dX8_row_48 rfl ?_
          refine q_vIf (pc := 49) C kX8_71 dX8_row_49 (c_X8_foundNothing) (s_0 _) rfl rfl (Nat.le_of_ble_eq_true rfl) (by decide) ⟨by decide, by decide⟩ ?_
          refine q_iret (pc := 52) C dX8_row_52 rfl ?_
          exact ⟨by simp [R_row, c6, tj, c14, c20, c27], by simp [CR_row, c6, tj, c14, c20, c27]⟩
        · refine r_aload_n (pc := 30) C dX8_row_30 rfl ?_
          refine r_iconst (pc := 31) C (4) dX8_row_31 (by decide) ?_
          refine q_vIf (pc := 32) C kX8_63 dX8_row_32 (c_X8_found) (s_0 _) rfl rfl (Nat.le_of_ble_eq_true rfl) (by decide) ⟨by decide, by decide⟩ ?_
          refine q_iret (pc := 35) C dX8_row_35 rfl ?_
          exact ⟨by simp [R_row, c6, tj, c14, c20, c27], by simp [CR_row, c6, tj, c14, c20, c27]⟩
      · refine r_ldc (pc := 23) C (-1000001) kX8_62 dX8_row_23 ?_
        refine q_iret (pc := 25) C dX8_row_25 rfl ?_
        exact ⟨by simp [R_row, c6, tj, c14, c20], by simp [CR_row, c6, tj, c14, c20]⟩
def CR_set (f : MM) (r i v : Int32) : MM := if inR r 8 = true then if 0 ≤ f 87 (tn r) then if inR i (tn (f 87 (tn r))) = true then u2 (u2 f (50 + 2 * tn r) (tn i) (asL (f 86 (tn r)) v)) 0 8 0 else u2 f 0 8 2 else u2 f 0 8 1 else f
theorem nn_nI {m : Nat} (h : m < 2147483648) : (0 : Int32) ≤ nI m := nI_pos' h
set_option maxRecDepth 100000 in
set_option maxHeartbeats 4000000 in
theorem c_X8_set {G : GG} {kn : Nat} {f : MM} (hR : IRow f) {a b c : Int32} : CI G mX8_set 3 kn [.ref (G.1 + 0), .int a, .int b, .int c] f (R_set f a b c).1 (CR_set f a b c) := by
  refine Ct.of [some (.ref (G.1 + 0)), some (.int a), some (.int b), some (.int c), none] rfl (by decide +kernel) rfl (Nat.le_of_ble_eq_true rfl) rfl ?_
  intro X C
  refine r_iload_n (pc := 0) C dX8_set_0 rfl ?_
  refine r_bipush (pc := 1) C (8) dX8_set_1 (by decide) ?_
  refine q_sIf (pc := 3) C kX8_58 dX8_set_3 (c_blw 8 rfl (by decide)) rfl rfl (Nat.le_of_ble_eq_true rfl) (by decide) ⟨by decide, by decide⟩ ?_
  refine r_if_ne (pc := 6) C 12 dX8_set_6 (by decide) (fun c6 => ?_) (fun c6 => ?_)
  · replace c6 := b1_1 c6
    obtain ⟨j, hj, rfl⟩ := inR_of c6
    have tj : tn (nI j) = j := tn_nI (by omega)
    refine r_aload_n (pc := 12) C dX8_set_12 rfl ?_
    refine r_getr (pc := 13) C fX8_11 dX8_set_13 (s_0 _) rfl rfl ?_
    refine r_iload_n (pc := 16) C dX8_set_16 rfl ?_
    refine q_aald (pc := 17) C j dX8_set_17 (s_1 _) (by decide) (sn_1 _) rfl (by omega) (by decide) (ra_t (by omega)) ?_
    refine r_astore (pc := 18) C dX8_set_18 (by decide) rfl ?_
    refine r_aload (pc := 20) C dX8_set_20 rfl ?_
    refine r_get (pc := 22) C fX8_74 dX8_set_22 (x_0 (by omega)) rfl ?_
    refine r_if_eq (pc := 25) C 34 dX8_set_25 (by decide) (fun c25 => ?_) (fun c25 => ?_)
    · obtain ⟨m, hm, z1, z3, z2, zi⟩ := (hR j hj).here c25
      have h0 : 0 ≤ f 87 j := by rw [z1]; exact nn_nI (by omega)
      have tm : tn (f 87 j) = m := by rw [z1]; exact tn_nI (by omega)
      refine r_iload_n (pc := 34) C dX8_set_34 rfl ?_
      refine r_aload (pc := 35) C dX8_set_35 rfl ?_
      refine r_get (pc := 37) C fX8_78 dX8_set_37 (x_0 (by omega)) rfl ?_
      refine q_sIf (pc := 40) C kX8_58 dX8_set_40 (c_blw m z3 (by omega)) rfl rfl (Nat.le_of_ble_eq_true rfl) (by decide) ⟨by decide, by decide⟩ ?_
      refine r_if_ne (pc := 43) C 52 dX8_set_43 (by decide) (fun c43 => ?_) (fun c43 => ?_)
      · replace c43 := b1_1 c43
        obtain ⟨i, hi, rfl⟩ := inR_of c43
        have ti : tn (nI i) = i := tn_nI (by omega)
        refine r_aload_n (pc := 52) C dX8_set_52 rfl ?_
        refine r_aload (pc := 53) C dX8_set_53 rfl ?_
        refine r_iload_n (pc := 55) C dX8_set_55 rfl ?_
        refine r_iload_n (pc := 56) C dX8_set_56 rfl ?_
        refine q_vIf (pc := 57) C kX8_82 dX8_set_57 (c_X5_put (r := j) hj (i := i) (by omega) rfl) (x_0 (by omega)) rfl rfl (Nat.le_of_ble_eq_true rfl) (by decide) ⟨by decide, by decide⟩ ?_
        refine q_vIf (pc := 60) C kX8_71 dX8_set_60 (c_X8_foundNothing) (s_0 _) rfl rfl (Nat.le_of_ble_eq_true rfl) (by decide) ⟨by decide, by decide⟩ ?_
        refine q_iret (pc := 63) C dX8_set_63 rfl ?_
        rw [z2]
        exact ⟨by simp [R_set, c6, tj, h0, tm, c43, ti], by simp [CR_set, c6, tj, h0, tm, c43, ti]⟩
      · replace c43 := b1_0 c43
        refine r_aload_n (pc := 46) C dX8_set_46 rfl ?_
        refine r_iconst (pc := 47) C (2) dX8_set_47 (by decide) ?_
        refine q_vIf (pc := 48) C kX8_63 dX8_set_48 (c_X8_found) (s_0 _) rfl rfl (Nat.le_of_ble_eq_true rfl) (by decide) ⟨by decide, by decide⟩ ?_
        refine q_iret (pc := 51) C dX8_set_51 rfl ?_
        exact ⟨by simp [R_set, c6, tj, h0, tm, c43], by simp [CR_set, c6, tj, h0, tm, c43]⟩
    · have z1 := (hR j hj).gone c25
      have h0 : ¬ 0 ≤ f 87 j := by rw [z1]; decide
      refine r_aload_n (pc := 28) C dX8_set_28 rfl ?_
      refine r_iconst (pc := 29) C (1) dX8_set_29 (by decide) ?_
      refine q_vIf (pc := 30) C kX8_63 dX8_set_30 (c_X8_found) (s_0 _) rfl rfl (Nat.le_of_ble_eq_true rfl) (by decide) ⟨by decide, by decide⟩ ?_
      refine q_iret (pc := 33) C dX8_set_33 rfl ?_
      exact ⟨by simp [R_set, c6, tj, h0], by simp [CR_set, c6, tj, h0]⟩
  · replace c6 := b1_0 c6
    refine r_ldc (pc := 9) C (-1000001) kX8_62 dX8_set_9 ?_
    refine q_iret (pc := 11) C dX8_set_11 rfl ?_
    exact ⟨by simp [R_set, c6], by simp [CR_set, c6]⟩
def CR_drop (f : MM) (r : Int32) : MM := if inR r 8 = true then if 0 ≤ f 87 (tn r) then u2 (u2 f (49 + 2 * tn r) 1 1) 0 8 0 else u2 f 0 8 1 else f
set_option maxRecDepth 100000 in
set_option maxHeartbeats 4000000 in
theorem c_X8_drop {G : GG} {kn : Nat} {f : MM} (hR : IRow f) {a : Int32} : CI G mX8_drop 2 kn [.ref (G.1 + 0), .int a] f (R_drop f a).1 (CR_drop f a) := by
  refine Ct.of [some (.ref (G.1 + 0)), some (.int a), none] rfl (by decide +kernel) rfl (Nat.le_of_ble_eq_true rfl) rfl ?_
  intro X C
  refine r_iload_n (pc := 0) C dX8_drop_0 rfl ?_
  refine r_bipush (pc := 1) C (8) dX8_drop_1 (by decide) ?_
  refine q_sIf (pc := 3) C kX8_58 dX8_drop_3 (c_blw 8 rfl (by decide)) rfl rfl (Nat.le_of_ble_eq_true rfl) (by decide) ⟨by decide, by decide⟩ ?_
  refine r_if_ne (pc := 6) C 12 dX8_drop_6 (by decide) (fun c6 => ?_) (fun c6 => ?_)
  · replace c6 := b1_1 c6
    obtain ⟨j, hj, rfl⟩ := inR_of c6
    have tj : tn (nI j) = j := tn_nI (by omega)
    refine r_aload_n (pc := 12) C dX8_drop_12 rfl ?_
    refine r_getr (pc := 13) C fX8_11 dX8_drop_13 (s_0 _) rfl rfl ?_
    refine r_iload_n (pc := 16) C dX8_drop_16 rfl ?_
    refine q_aald (pc := 17) C j dX8_drop_17 (s_1 _) (by decide) (sn_1 _) rfl (by omega) (by decide) (ra_t (by omega)) ?_
    refine r_astore_n (pc := 18) C dX8_drop_18 (by decide) rfl ?_
    refine r_aload_n (pc := 19) C dX8_drop_19 rfl ?_
    refine r_get (pc := 20) C fX8_74 dX8_drop_20 (x_0 (by omega)) rfl ?_
    refine r_if_eq (pc := 23) C 32 dX8_drop_23 (by decide) (fun c23 => ?_) (fun c23 => ?_)
    · obtain ⟨m, hm, z1, z3, z2, zi⟩ := (hR j hj).here c23
      have h0 : 0 ≤ f 87 j := by rw [z1]; exact nn_nI (by omega)
      have tm : tn (f 87 j) = m := by rw [z1]; exact tn_nI (by omega)
      refine r_aload_n (pc := 32) C dX8_drop_32 rfl ?_
      refine r_iconst (pc := 33) C (1) dX8_drop_33 (by decide) ?_
      refine r_putz (pc := 34) C fX8_74 ftX5_1 dX8_drop_34 (x_0 (by omega)) rfl (Or.inr rfl) ?_
      refine r_aload_n (pc := 37) C dX8_drop_37 rfl ?_
      refine r_aload_n (pc := 38) C dX8_drop_38 rfl ?_
      refine r_get (pc := 39) C fX8_78 dX8_drop_39 (x_0 (by omega)) rfl ?_
      refine q_val (f 87 j) (by rw [z1, ← z3]; simp [u2]) ?_
      refine q_vIf (pc := 42) C kX8_71 dX8_drop_42 (c_X8_foundNothing) (s_0 _) rfl rfl (Nat.le_of_ble_eq_true rfl) (by decide) ⟨by decide, by decide⟩ ?_
      refine q_iret (pc := 45) C dX8_drop_45 rfl ?_
      exact ⟨by simp [R_drop, c6, tj, h0, tm], by simp [CR_drop, c6, tj, h0, tm]⟩
    · have z1 := (hR j hj).gone c23
      have h0 : ¬ 0 ≤ f 87 j := by rw [z1]; decide
      refine r_aload_n (pc := 26) C dX8_drop_26 rfl ?_
      refine r_iconst (pc := 27) C (1) dX8_drop_27 (by decide) ?_
      refine q_vIf (pc := 28) C kX8_63 dX8_drop_28 (c_X8_found) (s_0 _) rfl rfl (Nat.le_of_ble_eq_true rfl) (by decide) ⟨by decide, by decide⟩ ?_
      refine q_iret (pc := 31) C dX8_drop_31 rfl ?_
      exact ⟨by simp [R_drop, c6, tj, h0], by simp [CR_drop, c6, tj, h0]⟩
  · replace c6 := b1_0 c6
    refine r_ldc (pc := 9) C (-1000001) kX8_62 dX8_drop_9 ?_
    refine q_iret (pc := 11) C dX8_drop_11 rfl ?_
    exact ⟨by simp [R_drop, c6], by simp [CR_drop, c6]⟩
theorem hld_eq {i n : Int32} {s : Nat} (hs : s ≤ 40) : hldB (nI s) i n = hold i n s := by
  unfold hldB hold
  refine decide_eq_decide.mpr ?_
  have es : (nI s).toInt = s := nI_toInt (by omega)
  have z : (0 : Int32).toInt = 0 := by decide
  rw [ti_le, ti_le, ti_le, ti_le, z, es]
  constructor
  · rintro ⟨h1, h2, h3, h4⟩
    rw [ti_sub (by omega) (by omega), es] at h4
    omega
  · rintro ⟨h1, h2, h3⟩
    refine ⟨h1, h2, by omega, ?_⟩
    rw [ti_sub (by omega) (by omega), es]
    omega
def CR_copyF (f : MM) (a i b j n : Nat) : MM := u2 (va_up f (50 + 2 * b) (va_cpy (f (50 + 2 * a)) (f (50 + 2 * b)) i j n)) 0 8 0
def CR_copy (f : MM) (a i b j n : Int32) : MM := if inR a 8 = true then if inR b 8 = true then if 0 ≤ f 87 (tn a) then if 0 ≤ f 87 (tn b) then if f 86 (tn a) = f 86 (tn b) then if hold i n (tn (f 87 (tn a))) = true then if hold j n (tn (f 87 (tn b))) = true then CR_copyF f (tn a) (tn i) (tn b) (tn j) (tn n) else u2 f 0 8 2 else u2 f 0 8 2 else u2 f 0 8 5 else u2 f 0 8 1 else u2 f 0 8 1 else f else f
set_option maxRecDepth 100000 in
set_option maxHeartbeats 4000000 in
theorem c_X8_copy {G : GG} {kn : Nat} {f : MM} (hR : IRow f) {a b c d e : Int32} : CI G mX8_copy 2 kn [.ref (G.1 + 0), .int a, .int b, .int c, .int d, .int e] f (R_copy f a b c d e).1 (CR_copy f a b c d e) := by
  refine Ct.of [some (.ref (G.1 + 0)), some (.int a), some (.int b), some (.int c), some (.int d), some (.int e), none, none] rfl (by decide +kernel) rfl (Nat.le_of_ble_eq_true rfl) rfl ?_
  intro X C
  refine r_iload_n (pc := 0) C dX8_copy_0 rfl ?_
  refine r_bipush (pc := 1) C (8) dX8_copy_1 (by decide) ?_
  refine q_sIf (pc := 3) C kX8_58 dX8_copy_3 (c_blw 8 rfl (by decide)) rfl rfl (Nat.le_of_ble_eq_true rfl) (by decide) ⟨by decide, by decide⟩ ?_
  refine r_if_eq (pc := 6) C 18 dX8_copy_6 (by decide) (fun c6 => ?_) (fun c6 => ?_)
  · replace c6 := b1_0 c6
    refine r_ldc (pc := 18) C (-1000001) kX8_62 dX8_copy_18 ?_
    refine q_iret (pc := 20) C dX8_copy_20 rfl ?_
    exact ⟨by simp [R_copy, c6], by simp [CR_copy, CR_copyF, c6]⟩
  · replace c6 := b1_1 c6
    obtain ⟨j, hj, rfl⟩ := inR_of c6
    have tj : tn (nI j) = j := tn_nI (by omega)
    refine r_iload_n (pc := 9) C dX8_copy_9 rfl ?_
    refine r_bipush (pc := 10) C (8) dX8_copy_10 (by decide) ?_
    refine q_sIf (pc := 12) C kX8_58 dX8_copy_12 (c_blw 8 rfl (by decide)) rfl rfl (Nat.le_of_ble_eq_true rfl) (by decide) ⟨by decide, by decide⟩ ?_
    refine r_if_ne (pc := 15) C 21 dX8_copy_15 (by decide) (fun c15 => ?_) (fun c15 => ?_)
    · replace c15 := b1_1 c15
      obtain ⟨r, hr, rfl⟩ := inR_of c15
      have tr : tn (nI r) = r := tn_nI (by omega)
      refine r_aload_n (pc := 21) C dX8_copy_21 rfl ?_
      refine r_getr (pc := 22) C fX8_11 dX8_copy_22 (s_0 _) rfl rfl ?_
      refine r_iload_n (pc := 25) C dX8_copy_25 rfl ?_
      refine q_aald (pc := 26) C j dX8_copy_26 (s_1 _) (by decide) (sn_1 _) rfl (by omega) (by decide) (ra_t (by omega)) ?_
      refine r_astore (pc := 27) C dX8_copy_27 (by decide) rfl ?_
      refine r_aload_n (pc := 29) C dX8_copy_29 rfl ?_
      refine r_getr (pc := 30) C fX8_11 dX8_copy_30 (s_0 _) rfl rfl ?_
      refine r_iload_n (pc := 33) C dX8_copy_33 rfl ?_
      refine q_aald (pc := 34) C r dX8_copy_34 (s_1 _) (by decide) (sn_1 _) rfl (by omega) (by decide) (ra_t (by omega)) ?_
      refine r_astore (pc := 35) C dX8_copy_35 (by decide) rfl ?_
      refine r_aload (pc := 37) C dX8_copy_37 rfl ?_
      refine r_get (pc := 39) C fX8_74 dX8_copy_39 (x_0 (by omega)) rfl ?_
      refine r_if_ne (pc := 42) C 53 dX8_copy_42 (by decide) (fun c42 => ?_) (fun c42 => ?_)
      · have z1 := (hR j hj).gone c42
        have h0 : ¬ 0 ≤ f 87 j := by rw [z1]; decide
        refine r_aload_n (pc := 53) C dX8_copy_53 rfl ?_
        refine r_iconst (pc := 54) C (1) dX8_copy_54 (by decide) ?_
        refine q_vIf (pc := 55) C kX8_63 dX8_copy_55 (c_X8_found) (s_0 _) rfl rfl (Nat.le_of_ble_eq_true rfl) (by decide) ⟨by decide, by decide⟩ ?_
        refine q_iret (pc := 58) C dX8_copy_58 rfl ?_
        exact ⟨by simp [R_copy, c6, tj, c15, tr, h0], by simp [CR_copy, CR_copyF, c6, tj, c15, tr, h0]⟩
      · obtain ⟨m, hm, z1, z3, z2, zi⟩ := (hR j hj).here c42
        have h0 : 0 ≤ f 87 j := by rw [z1]; exact nn_nI (by omega)
        have tm : tn (f 87 j) = m := by rw [z1]; exact tn_nI (by omega)
        refine r_aload (pc := 45) C dX8_copy_45 rfl ?_
        refine r_get (pc := 47) C fX8_74 dX8_copy_47 (x_0 (by omega)) rfl ?_
        refine r_if_eq (pc := 50) C 59 dX8_copy_50 (by decide) (fun c50 => ?_) (fun c50 => ?_)
        · obtain ⟨y, hy, y1, y3, y2, yi⟩ := (hR r hr).here c50
          have k0 : 0 ≤ f 87 r := by rw [y1]; exact nn_nI (by omega)
          have ty : tn (f 87 r) = y := by rw [y1]; exact tn_nI (by omega)
          refine r_aload (pc := 59) C dX8_copy_59 rfl ?_
          refine r_get (pc := 61) C fX8_86 dX8_copy_61 (x_0 (by omega)) rfl ?_
          refine q_val (f 86 j) z2 ?_
          refine r_aload (pc := 64) C dX8_copy_64 rfl ?_
          refine r_get (pc := 66) C fX8_86 dX8_copy_66 (x_0 (by omega)) rfl ?_
          refine q_val (f 86 r) y2 ?_
          refine r_icmp_eq (pc := 69) C 78 dX8_copy_69 (by decide) (fun c69 => ?_) (fun c69 => ?_)
          · refine r_aload (pc := 78) C dX8_copy_78 rfl ?_
            refine r_iload_n (pc := 80) C dX8_copy_80 rfl ?_
            refine r_iload (pc := 81) C dX8_copy_81 rfl ?_
            refine q_vIf (pc := 83) C kX8_89 dX8_copy_83 (c_X5_holds (r := j) hj) (x_0 (by omega)) rfl rfl (Nat.le_of_ble_eq_true rfl) (by decide) ⟨by decide, by decide⟩ ?_
            rw [z3, hld_eq hm]
            refine r_if_eq (pc := 86) C 101 dX8_copy_86 (by decide) (fun c86 => ?_) (fun c86 => ?_)
            · replace c86 := b1_0 c86
              refine r_aload_n (pc := 101) C dX8_copy_101 rfl ?_
              refine r_iconst (pc := 102) C (2) dX8_copy_102 (by decide) ?_
              refine q_vIf (pc := 103) C kX8_63 dX8_copy_103 (c_X8_found) (s_0 _) rfl rfl (Nat.le_of_ble_eq_true rfl) (by decide) ⟨by decide, by decide⟩ ?_
              refine q_iret (pc := 106) C dX8_copy_106 rfl ?_
              exact ⟨by simp [R_copy, c6, tj, c15, tr, h0, tm, k0, ty, c69, c86], by simp [CR_copy, CR_copyF, c6, tj, c15, tr, h0, tm, k0, ty, c69, c86]⟩
            · replace c86 := b1_1 c86
              refine r_aload (pc := 89) C dX8_copy_89 rfl ?_
              refine r_iload (pc := 91) C dX8_copy_91 rfl ?_
              refine r_iload (pc := 93) C dX8_copy_93 rfl ?_
              refine q_vIf (pc := 95) C kX8_89 dX8_copy_95 (c_X5_holds (r := r) hr) (x_0 (by omega)) rfl rfl (Nat.le_of_ble_eq_true rfl) (by decide) ⟨by decide, by decide⟩ ?_
              rw [y3, hld_eq hy]
              refine r_if_ne (pc := 98) C 107 dX8_copy_98 (by decide) (fun c98 => ?_) (fun c98 => ?_)
              · replace c98 := b1_1 c98
                obtain ⟨p1, w1, s1, rfl, rfl⟩ := hold_of c86
                obtain ⟨p2, w2, s2, rfl, e2⟩ := hold_of c98
                obtain rfl : w1 = w2 := by
                  have := congrArg Int32.toNatClampNeg e2
                  rw [nI_clamp (by omega), nI_clamp (by omega)] at this
                  exact this
                have tp1 : tn (nI p1) = p1 := tn_nI (by omega)
                have tp2 : tn (nI p2) = p2 := tn_nI (by omega)
                have tw : tn (nI w1) = w1 := tn_nI (by omega)
                refine r_aload (pc := 107) C dX8_copy_107 rfl ?_
                refine r_getr (pc := 109) C fX8_92 dX8_copy_109 (x_0 (by omega)) rfl (x_t0 (by omega)) ?_
                refine r_iload_n (pc := 112) C dX8_copy_112 rfl ?_
                refine r_aload (pc := 113) C dX8_copy_113 rfl ?_
                refine r_getr (pc := 115) C fX8_92 dX8_copy_115 (x_0 (by omega)) rfl (x_t0 (by omega)) ?_
                refine r_iload (pc := 118) C dX8_copy_118 rfl ?_
                refine r_iload (pc := 120) C dX8_copy_120 rfl ?_
                refine r_copyi (pc := 122) C kcX8_96 dX8_copy_122 (x_1 hj) (x_1n hj) (x_1 hr) (x_1n hr) (Int32.not_lt.mpr (nI_pos' (by omega))) (Int32.not_lt.mpr (nI_pos' (by omega))) (Int32.not_lt.mpr (nI_pos' (by omega))) (by rw [nI_clamp (by omega), nI_clamp (by omega)]; omega) (by rw [nI_clamp (by omega), nI_clamp (by omega)]; omega) ⟨rfl, rfl⟩ (by decide) (Nat.le_of_ble_eq_true rfl) ?_
                rw [nI_clamp (show p1 < 2147483648 by omega), nI_clamp (show p2 < 2147483648 by omega), nI_clamp (show w1 < 2147483648 by omega)]
                refine r_aload_n (pc := 125) C dX8_copy_125 rfl ?_
                refine r_iload (pc := 126) C dX8_copy_126 rfl ?_
                refine q_vIf (pc := 128) C kX8_71 dX8_copy_128 (c_X8_foundNothing) (s_0 _) rfl rfl (Nat.le_of_ble_eq_true rfl) (by decide) ⟨by decide, by decide⟩ ?_
                refine q_iret (pc := 131) C dX8_copy_131 rfl ?_
                exact ⟨by simp [R_copy, c6, tj, c15, tr, h0, tm, k0, ty, c69, c86, c98, tp1, tp2, tw], by simp [CR_copy, CR_copyF, c6, tj, c15, tr, h0, tm, k0, ty, c69, c86, c98, tp1, tp2, tw]⟩
              · replace c98 := b1_0 c98
                refine r_aload_n (pc := 101) C dX8_copy_101 rfl ?_
                refine r_iconst (pc := 102) C (2) dX8_copy_102 (by decide) ?_
                refine q_vIf (pc := 103) C kX8_63 dX8_copy_103 (c_X8_found) (s_0 _) rfl rfl (Nat.le_of_ble_eq_true rfl) (by decide) ⟨by decide, by decide⟩ ?_
                refine q_iret (pc := 106) C dX8_copy_106 rfl ?_
                exact ⟨by simp [R_copy, c6, tj, c15, tr, h0, tm, k0, ty, c69, c86, c98], by simp [CR_copy, CR_copyF, c6, tj, c15, tr, h0, tm, k0, ty, c69, c86, c98]⟩
          · refine r_aload_n (pc := 72) C dX8_copy_72 rfl ?_
            refine r_iconst (pc := 73) C (5) dX8_copy_73 (by decide) ?_
            refine q_vIf (pc := 74) C kX8_63 dX8_copy_74 (c_X8_found) (s_0 _) rfl rfl (Nat.le_of_ble_eq_true rfl) (by decide) ⟨by decide, by decide⟩ ?_
            refine q_iret (pc := 77) C dX8_copy_77 rfl ?_
            exact ⟨by simp [R_copy, c6, tj, c15, tr, h0, tm, k0, ty, c69], by simp [CR_copy, CR_copyF, c6, tj, c15, tr, h0, tm, k0, ty, c69]⟩
        · have y1 := (hR r hr).gone c50
          have k0 : ¬ 0 ≤ f 87 r := by rw [y1]; decide
          refine r_aload_n (pc := 53) C dX8_copy_53 rfl ?_
          refine r_iconst (pc := 54) C (1) dX8_copy_54 (by decide) ?_
          refine q_vIf (pc := 55) C kX8_63 dX8_copy_55 (c_X8_found) (s_0 _) rfl rfl (Nat.le_of_ble_eq_true rfl) (by decide) ⟨by decide, by decide⟩ ?_
          refine q_iret (pc := 58) C dX8_copy_58 rfl ?_
          exact ⟨by simp [R_copy, c6, tj, c15, tr, h0, tm, k0], by simp [CR_copy, CR_copyF, c6, tj, c15, tr, h0, tm, k0]⟩
    · replace c15 := b1_0 c15
      refine r_ldc (pc := 18) C (-1000001) kX8_62 dX8_copy_18 ?_
      refine q_iret (pc := 20) C dX8_copy_20 rfl ?_
      exact ⟨by simp [R_copy, c6, tj, c15], by simp [CR_copy, CR_copyF, c6, tj, c15]⟩
def CR_feed (f : MM) (a : Int32) : MM := if inR a 256 = true then if f 85 8 = 120 then f else u2 (u2 f 3 (tn (f 85 8)) a) 2 1 (f 85 8 + 1) else f
set_option maxRecDepth 100000 in
set_option maxHeartbeats 4000000 in
theorem c_X8_feed {G : GG} {kn : Nat} {f : MM} (hT : ITap f) {a : Int32} : CI G mX8_feed 2 kn [.ref (G.1 + 0), .int a] f (R_feed f a).1 (CR_feed f a) := by
  refine Ct.of [some (.ref (G.1 + 0)), some (.int a)] rfl (by decide +kernel) rfl (Nat.le_of_ble_eq_true rfl) rfl ?_
  intro X C
  obtain ⟨e3, q, hq, eq, e8⟩ := hT
  have tq : tn (f 85 8) = q := by rw [e8]; exact tn_nI (by omega)
  have q1 : f 85 8 + 1 = nI (q + 1) := by rw [e8]; exact nI_1 q
  refine r_iload_n (pc := 0) C dX8_feed_0 rfl ?_
  refine r_sipush (pc := 1) C (256) dX8_feed_1 (by decide) ?_
  refine q_sIf (pc := 4) C kX8_58 dX8_feed_4 (c_blw 256 rfl (by decide)) rfl rfl (Nat.le_of_ble_eq_true rfl) (by decide) ⟨by decide, by decide⟩ ?_
  refine r_if_ne (pc := 7) C 13 dX8_feed_7 (by decide) (fun c7 => ?_) (fun c7 => ?_)
  · replace c7 := b1_1 c7
    refine r_aload_n (pc := 13) C dX8_feed_13 rfl ?_
    refine r_getr (pc := 14) C fX8_18 dX8_feed_14 (s_0 _) rfl rfl ?_
    refine r_get (pc := 17) C fX8_102 dX8_feed_17 (s_2 _) rfl ?_
    refine q_val (f 85 8) (by rw [eq, e8]) ?_
    refine r_bipush (pc := 20) C (120) dX8_feed_20 (by decide) ?_
    refine r_icmp_ne (pc := 22) C 28 dX8_feed_22 (by decide) (fun c22 => ?_) (fun c22 => ?_)
    · have q120 : q < 120 := by
        rcases Nat.lt_or_ge q 120 with z | z
        · exact z
        · exact absurd (by rw [e8, show q = 120 by omega]; rfl) c22
      refine r_aload_n (pc := 28) C dX8_feed_28 rfl ?_
      refine r_getr (pc := 29) C fX8_18 dX8_feed_29 (s_0 _) rfl rfl ?_
      refine r_iload_n (pc := 32) C dX8_feed_32 rfl ?_
      refine q_vIf (pc := 33) C kX8_106 dX8_feed_33 (c_X4_append (q := q) q120 eq) (s_2 _) rfl rfl (Nat.le_of_ble_eq_true rfl) (by decide) ⟨by decide, by decide⟩ ?_
      refine q_iret (pc := 36) C dX8_feed_36 rfl ?_
      exact ⟨by simp [R_feed, q1, c7, c22], by simp [CR_feed, tq, q1, c7, c22]⟩
    · refine r_ldc (pc := 25) C (-1000003) kX8_105 dX8_feed_25 ?_
      refine q_iret (pc := 27) C dX8_feed_27 rfl ?_
      exact ⟨by simp [R_feed, q1, c7, c22], by simp [CR_feed, tq, q1, c7, c22]⟩
  · replace c7 := b1_0 c7
    refine r_ldc (pc := 10) C (-1000001) kX8_62 dX8_feed_10 ?_
    refine q_iret (pc := 12) C dX8_feed_12 rfl ?_
    exact ⟨by simp [R_feed, q1, c7], by simp [CR_feed, tq, q1, c7]⟩
