/-! small rows more, and the leaves -/
def b1 (b : Bool) : Int32 := if b = true then 1 else 0
theorem b1t {p : Prop} [Decidable p] (h : p) : (1 : Int32) = b1 (decide p) := by simp [b1, h]
theorem b1f {p : Prop} [Decidable p] (h : ¬ p) : (0 : Int32) = b1 (decide p) := by simp [b1, h]
theorem b1_0 {b : Bool} (h : b1 b = 0) : b = false := by cases b; rfl; simp [b1] at h
theorem b1_1 {b : Bool} (h : ¬ b1 b = 0) : b = true := by cases b; simp [b1] at h; rfl
theorem b1_z (b : Bool) : b1 b = 0 ∨ b1 b = 1 := by cases b <;> simp [b1]
theorem d0 {p : Prop} [Decidable p] (h : b1 (decide p) = 0) : ¬ p := of_decide_eq_false (b1_0 h)
theorem d1 {p : Prop} [Decidable p] (h : ¬ b1 (decide p) = 0) : p := of_decide_eq_true (b1_1 h)
section RE
variable {X : XT} {G : GG} {M : MD} {lv mc ms N0 : Nat} {cs sl : Nat} {Q : State → Prop} {N : Nat} {sh : SH} {f : MM} {pc : Nat} {ls : List (Option Value)} {st : List Value}
theorem r_tableEq (C : Cx X G M lv mc ms N0) {dflt lo hi : Int} {offs : Array Int} {len : Nat} {x : Int32} {off : Int} (tgt : Nat) (v : Int32) (hx : x = v) (hd : decode M.2.2.1 pc = .ok (.tableswitch dflt lo hi offs, len)) (h1 : ¬ v.toInt < lo) (h2 : ¬ hi < v.toInt) (ho : offs[(v.toInt - lo).toNat]? = some off) (ht : (pc : Int) + off = (tgt : Int)) (K : Vw X G M.2.2.2.1 cs sl Q N sh f tgt ls st) : Vw X G M.2.2.2.1 cs sl Q N sh f pc ls (.int x :: st) := by
  subst hx
  exact r_tableIn C tgt hd h1 h2 ho ht K
theorem q_is {x : Int32} (n : Nat) (hx : x = nI n) (K : Vw X G M.2.2.2.1 cs sl Q N sh f pc ls (.int (nI n) :: st)) : Vw X G M.2.2.2.1 cs sl Q N sh f pc ls (.int x :: st) := by
  subst hx
  exact K
theorem q_val {x : Int32} (y : Int32) (hx : x = y) (K : Vw X G M.2.2.2.1 cs sl Q N sh f pc ls (.int y :: st)) : Vw X G M.2.2.2.1 cs sl Q N sh f pc ls (.int x :: st) := by
  subst hx
  exact K
theorem q_f {f' : MM} (hx : f = f') (K : Vw X G M.2.2.2.1 cs sl Q N sh f' pc ls st) : Vw X G M.2.2.2.1 cs sl Q N sh f pc ls st := by
  subst hx
  exact K
theorem r_ldc_w (C : Cx X G M lv mc ms N0) {idx : Nat} (v : Int32) (hw : Cond.constant M.1 idx v ∈ gw) (hd : decode M.2.2.1 pc = .ok (.ldc_w idx, 3)) (K : Vw X G M.2.2.2.1 cs sl Q N sh f (pc + 3) ls (.int v :: st)) : Vw X G M.2.2.2.1 cs sl Q N sh f pc ls st :=
  fun H locs arr hP hz hS hl => lv_ldcw C.1 C.2.1 C.2.2.2.1 (C.2.2.2.2.1 _ hw) hd (K H locs arr hP hz hS hl)
theorem r_lload_n (C : Cx X G M lv mc ms N0) {k : Fin 4} {x : Int64} (hd : decode M.2.2.1 pc = .ok (.lload_n k, 1)) (h : ls[(k : Nat)]? = some (some (.long x))) (K : Vw X G M.2.2.2.1 cs sl Q N sh f (pc + 1) ls (.long x :: st)) : Vw X G M.2.2.2.1 cs sl Q N sh f pc ls st :=
  fun H locs arr hP hz hS hl => lv_lload_n C.1 C.2.1 hd rfl (hl.at h) (K H locs arr hP hz hS hl)
theorem r_lload (C : Cx X G M lv mc ms N0) {i : Nat} {x : Int64} (hd : decode M.2.2.1 pc = .ok (.lload i, 2)) (h : ls[i]? = some (some (.long x))) (K : Vw X G M.2.2.2.1 cs sl Q N sh f (pc + 2) ls (.long x :: st)) : Vw X G M.2.2.2.1 cs sl Q N sh f pc ls st :=
  fun H locs arr hP hz hS hl => lv_lload C.1 C.2.1 hd (hl.at h) (K H locs arr hP hz hS hl)
theorem r_lcmp (C : Cx X G M lv mc ms N0) {x y : Int64} (hd : decode M.2.2.1 pc = .ok (.lcmp, 1)) (K : Vw X G M.2.2.2.1 cs sl Q N sh f (pc + 1) ls (.int (lg_cmp x y) :: st)) : Vw X G M.2.2.2.1 cs sl Q N sh f pc ls (.long y :: .long x :: st) :=
  fun H locs arr hP hz hS hl => W.lcmp C.1 C.2.1 hd (K H locs arr hP hz hS hl)
end RE
theorem Ct.ofL {G : GG} {M : MD} {lv mc ms : Nat} {av : List Value} {N : Nat} {sh : SH} {f : MM} {post : PoT} (ls : List (Option Value)) (hls : ∀ (i : Nat) (v : Value), ls[i]? = some (some v) → (i, v) ∈ lv_args 0 av) (hy : plainName M.2.1.cls = true) (ho : M.2.1.cls = M.1) (hn : (lg_sl av).length ≤ M.2.2.2.1)
    (body : ∀ X : XT, Cx X G M lv mc ms N → Vw X G M.2.2.2.1 0 0 (QQ X G post mc ms) N sh f 0 ls []) : Ct G M lv mc ms av N sh f post := by
  intro l
  refine Met.ofW (cc := M.2.2.1) (maxL := M.2.2.2.1) (ret := M.2.2.2.2) hy rfl ?_
  intro p e s m args below meth c s₁ B hml hv
  obtain ⟨rfl, hP, hsz, hk, hz⟩ := hv
  have hts := atoms_spec (ws := wsM M) B.pre
  have hown : s.vm.findClass M.1 = some m.cls := by rw [← ho]; exact findClass_of_methodNamed B.named
  have hb := body (p, l, e, rmL lv mc ms, s, m, av.toArray, below, meth, c) ⟨B.exec, B.bytes, hml, hown, fun w hw => hts w (List.mem_cons_of_mem _ hw), hk, hz, B.notSynchronized, B.returns, (name_of_methodNamed B.named B.method).1, rfl, hsz⟩
  rw [lg_entry_eq]
  have h0 := lv_entry av (n := M.2.2.2.1) hn
  exact hb s.heap [] _ hP hsz va_S.rf ⟨h0.1, h0.2.1, fun i v hv => h0.2.2 _ (hls i v hv)⟩
theorem i64le (x y : Int32) : x.toInt64 ≤ y.toInt64 ↔ x ≤ y := by rw [Int64.le_iff_toInt_le, Int32.le_iff_toInt_le, Int32.toInt_toInt64, Int32.toInt_toInt64]
theorem cmp_lt {x y : Int64} : lg_cmp x y < 0 ↔ x < y := by
  unfold lg_cmp
  by_cases h1 : y < x
  · have h3 : ¬ x < y := by
      rw [Int64.lt_iff_toInt_lt] at h1 ⊢
      omega
    simp [h1, h3]
  · by_cases h2 : x = y
    · subst h2; simp
    · have h4 : x < y := by
        rw [Int64.lt_iff_toInt_lt] at h1
        have h3 : x.toInt ≠ y.toInt := fun e => h2 (Int64.toInt_inj.mp e)
        rw [Int64.lt_iff_toInt_lt]
        omega
      simp [h1, h2, h4]
theorem cmp_gt {x y : Int64} : 0 < lg_cmp x y ↔ y < x := by
  unfold lg_cmp
  by_cases h1 : y < x
  · simp [h1]
  · by_cases h2 : x = y
    · subst h2; simp
    · simp [h1, h2]
theorem ts0_5 (x : Int32) : (x.toInt < 0 ∨ 5 < x.toInt) ∨ x = 0 ∨ x = 1 ∨ x = 2 ∨ x = 3 ∨ x = 4 ∨ x = 5 := by
  rcases Int.lt_or_le x.toInt 0 with h | h
  · exact Or.inl (Or.inl h)
  · rcases Int.lt_or_le 5 x.toInt with g | g
    · exact Or.inl (Or.inr g)
    · refine Or.inr ?_
      have key : ∀ v : Int32, x.toInt = v.toInt → x = v := fun v e => Int32.toInt_inj.mp e
      obtain ⟨n, hn⟩ : ∃ n : Nat, x.toInt = 0 + n := ⟨(x.toInt - 0).toNat, by omega⟩
      have hn2 : n < 6 := by omega
      match n, hn2, hn with
      | 0, _, hn => exact Or.inl (key 0 hn)
      | 1, _, hn => exact Or.inr (Or.inl (key 1 hn))
      | 2, _, hn => exact Or.inr (Or.inr (Or.inl (key 2 hn)))
      | 3, _, hn => exact Or.inr (Or.inr (Or.inr (Or.inl (key 3 hn))))
      | 4, _, hn => exact Or.inr (Or.inr (Or.inr (Or.inr (Or.inl (key 4 hn)))))
      | 5, _, hn => exact Or.inr (Or.inr (Or.inr (Or.inr (Or.inr (key 5 hn)))))
theorem ts0_8 (x : Int32) : (x.toInt < 0 ∨ 8 < x.toInt) ∨ x = 0 ∨ x = 1 ∨ x = 2 ∨ x = 3 ∨ x = 4 ∨ x = 5 ∨ x = 6 ∨ x = 7 ∨ x = 8 := by
  rcases Int.lt_or_le x.toInt 0 with h | h
  · exact Or.inl (Or.inl h)
  · rcases Int.lt_or_le 8 x.toInt with g | g
    · exact Or.inl (Or.inr g)
    · refine Or.inr ?_
      have key : ∀ v : Int32, x.toInt = v.toInt → x = v := fun v e => Int32.toInt_inj.mp e
      obtain ⟨n, hn⟩ : ∃ n : Nat, x.toInt = 0 + n := ⟨(x.toInt - 0).toNat, by omega⟩
      have hn2 : n < 9 := by omega
      match n, hn2, hn with
      | 0, _, hn => exact Or.inl (key 0 hn)
      | 1, _, hn => exact Or.inr (Or.inl (key 1 hn))
      | 2, _, hn => exact Or.inr (Or.inr (Or.inl (key 2 hn)))
      | 3, _, hn => exact Or.inr (Or.inr (Or.inr (Or.inl (key 3 hn))))
      | 4, _, hn => exact Or.inr (Or.inr (Or.inr (Or.inr (Or.inl (key 4 hn)))))
      | 5, _, hn => exact Or.inr (Or.inr (Or.inr (Or.inr (Or.inr (Or.inl (key 5 hn))))))
      | 6, _, hn => exact Or.inr (Or.inr (Or.inr (Or.inr (Or.inr (Or.inr (Or.inl (key 6 hn)))))))
      | 7, _, hn => exact Or.inr (Or.inr (Or.inr (Or.inr (Or.inr (Or.inr (Or.inr (Or.inl (key 7 hn))))))))
      | 8, _, hn => exact Or.inr (Or.inr (Or.inr (Or.inr (Or.inr (Or.inr (Or.inr (Or.inr (key 8 hn))))))))
theorem ts0_3 (x : Int32) : (x.toInt < 0 ∨ 3 < x.toInt) ∨ x = 0 ∨ x = 1 ∨ x = 2 ∨ x = 3 := by
  rcases Int.lt_or_le x.toInt 0 with h | h
  · exact Or.inl (Or.inl h)
  · rcases Int.lt_or_le 3 x.toInt with g | g
    · exact Or.inl (Or.inr g)
    · refine Or.inr ?_
      have key : ∀ v : Int32, x.toInt = v.toInt → x = v := fun v e => Int32.toInt_inj.mp e
      obtain ⟨n, hn⟩ : ∃ n : Nat, x.toInt = 0 + n := ⟨(x.toInt - 0).toNat, by omega⟩
      have hn2 : n < 4 := by omega
      match n, hn2, hn with
      | 0, _, hn => exact Or.inl (key 0 hn)
      | 1, _, hn => exact Or.inr (Or.inl (key 1 hn))
      | 2, _, hn => exact Or.inr (Or.inr (Or.inl (key 2 hn)))
      | 3, _, hn => exact Or.inr (Or.inr (Or.inr (key 3 hn)))
theorem ts10_24 (x : Int32) : (x.toInt < 10 ∨ 24 < x.toInt) ∨ x = 10 ∨ x = 11 ∨ x = 12 ∨ x = 13 ∨ x = 14 ∨ x = 15 ∨ x = 16 ∨ x = 17 ∨ x = 18 ∨ x = 19 ∨ x = 20 ∨ x = 21 ∨ x = 22 ∨ x = 23 ∨ x = 24 := by
  rcases Int.lt_or_le x.toInt 10 with h | h
  · exact Or.inl (Or.inl h)
  · rcases Int.lt_or_le 24 x.toInt with g | g
    · exact Or.inl (Or.inr g)
    · refine Or.inr ?_
      have key : ∀ v : Int32, x.toInt = v.toInt → x = v := fun v e => Int32.toInt_inj.mp e
      obtain ⟨n, hn⟩ : ∃ n : Nat, x.toInt = 10 + n := ⟨(x.toInt - 10).toNat, by omega⟩
      have hn2 : n < 15 := by omega
      match n, hn2, hn with
      | 0, _, hn => exact Or.inl (key 10 hn)
      | 1, _, hn => exact Or.inr (Or.inl (key 11 hn))
      | 2, _, hn => exact Or.inr (Or.inr (Or.inl (key 12 hn)))
      | 3, _, hn => exact Or.inr (Or.inr (Or.inr (Or.inl (key 13 hn))))
      | 4, _, hn => exact Or.inr (Or.inr (Or.inr (Or.inr (Or.inl (key 14 hn)))))
      | 5, _, hn => exact Or.inr (Or.inr (Or.inr (Or.inr (Or.inr (Or.inl (key 15 hn))))))
      | 6, _, hn => exact Or.inr (Or.inr (Or.inr (Or.inr (Or.inr (Or.inr (Or.inl (key 16 hn)))))))
      | 7, _, hn => exact Or.inr (Or.inr (Or.inr (Or.inr (Or.inr (Or.inr (Or.inr (Or.inl (key 17 hn))))))))
      | 8, _, hn => exact Or.inr (Or.inr (Or.inr (Or.inr (Or.inr (Or.inr (Or.inr (Or.inr (Or.inl (key 18 hn)))))))))
      | 9, _, hn => exact Or.inr (Or.inr (Or.inr (Or.inr (Or.inr (Or.inr (Or.inr (Or.inr (Or.inr (Or.inl (key 19 hn))))))))))
      | 10, _, hn => exact Or.inr (Or.inr (Or.inr (Or.inr (Or.inr (Or.inr (Or.inr (Or.inr (Or.inr (Or.inr (Or.inl (key 20 hn)))))))))))
      | 11, _, hn => exact Or.inr (Or.inr (Or.inr (Or.inr (Or.inr (Or.inr (Or.inr (Or.inr (Or.inr (Or.inr (Or.inr (Or.inl (key 21 hn))))))))))))
      | 12, _, hn => exact Or.inr (Or.inr (Or.inr (Or.inr (Or.inr (Or.inr (Or.inr (Or.inr (Or.inr (Or.inr (Or.inr (Or.inr (Or.inl (key 22 hn)))))))))))))
      | 13, _, hn => exact Or.inr (Or.inr (Or.inr (Or.inr (Or.inr (Or.inr (Or.inr (Or.inr (Or.inr (Or.inr (Or.inr (Or.inr (Or.inr (Or.inl (key 23 hn))))))))))))))
      | 14, _, hn => exact Or.inr (Or.inr (Or.inr (Or.inr (Or.inr (Or.inr (Or.inr (Or.inr (Or.inr (Or.inr (Or.inr (Or.inr (Or.inr (Or.inr (key 24 hn))))))))))))))

set_option maxRecDepth 100000 in
theorem c_X8_isBelow {G : GG} {kn : Nat} {f : MM} {a b : Int32} : CI G mX8_isBelow 1 kn [.int a, .int b] f (b1 (decide (0 ≤ a ∧ a < b))) f := by
  refine Ct.of [some (.int a), some (.int b)] rfl (by decide +kernel) rfl (Nat.le_of_ble_eq_true rfl) rfl ?_
  intro X C
  refine r_iload_n (pc := 0) C dX8_isBelow_0 rfl ?_
  refine r_if_lt (pc := 1) C 13 dX8_isBelow_1 (by decide) (fun c1 => ?_) (fun c1 => ?_)
  · refine r_iconst (pc := 13) C (0) dX8_isBelow_13 (by decide) ?_
    refine q_zret (pc := 14) C dX8_isBelow_14 rfl (Or.inl rfl) ?_
    exact ⟨b1f (fun h => absurd c1 (Int32.not_lt.mpr h.1)), rfl⟩
  · refine r_iload_n (pc := 4) C dX8_isBelow_4 rfl ?_
    refine r_iload_n (pc := 5) C dX8_isBelow_5 rfl ?_
    refine r_icmp_ge (pc := 6) C 13 dX8_isBelow_6 (by decide) (fun c6 => ?_) (fun c6 => ?_)
    · refine r_iconst (pc := 13) C (0) dX8_isBelow_13 (by decide) ?_
      refine q_zret (pc := 14) C dX8_isBelow_14 rfl (Or.inl rfl) ?_
      exact ⟨b1f (fun h => absurd h.2 (Int32.not_lt.mpr c6)), rfl⟩
    · refine r_iconst (pc := 9) C (1) dX8_isBelow_9 (by decide) ?_
      refine r_goto (pc := 10) C 14 dX8_isBelow_10 (by decide) ?_
      refine q_zret (pc := 14) C dX8_isBelow_14 rfl (Or.inr rfl) ?_
      exact ⟨b1t ⟨Int32.not_lt.mp c1, Int32.not_le.mp c6⟩, rfl⟩
set_option maxRecDepth 100000 in
theorem c_X9_in64 {G : GG} {kn : Nat} {f : MM} {a b c : Int64} : CI G mX9_in 1 kn [.long a, .long b, .long c] f (b1 (decide (b ≤ a ∧ a ≤ c))) f := by
  refine Ct.ofL [some (.long a), none, some (.long b), none, some (.long c), none] (fun i v h => ?_) (by decide +kernel) rfl (Nat.le_of_ble_eq_true rfl) ?_
  · match i, h with
    | 0, h => cases h; exact List.mem_cons_self
    | 2, h => cases h; exact List.mem_cons_of_mem _ List.mem_cons_self
    | 4, h => cases h; exact List.mem_cons_of_mem _ (List.mem_cons_of_mem _ List.mem_cons_self)
    | 1, h => cases h
    | 3, h => cases h
    | 5, h => cases h
    | n + 6, h => cases h
  intro X C
  refine r_lload_n (pc := 0) C dX9_in_0 rfl ?_
  refine r_lload_n (pc := 1) C dX9_in_1 rfl ?_
  refine r_lcmp (pc := 2) C dX9_in_2 ?_
  refine r_if_lt (pc := 3) C 17 dX9_in_3 (by decide) (fun c3 => ?_) (fun c3 => ?_)
  · refine r_iconst (pc := 17) C (0) dX9_in_17 (by decide) ?_
    refine q_zret (pc := 18) C dX9_in_18 rfl (Or.inl rfl) ?_
    exact ⟨b1f (fun h => absurd (cmp_lt.mp c3) (Int64.not_lt.mpr h.1)), rfl⟩
  · refine r_lload_n (pc := 6) C dX9_in_6 rfl ?_
    refine r_lload (pc := 7) C dX9_in_7 rfl ?_
    refine r_lcmp (pc := 9) C dX9_in_9 ?_
    refine r_if_gt (pc := 10) C 17 dX9_in_10 (by decide) (fun c10 => ?_) (fun c10 => ?_)
    · refine r_iconst (pc := 17) C (0) dX9_in_17 (by decide) ?_
      refine q_zret (pc := 18) C dX9_in_18 rfl (Or.inl rfl) ?_
      exact ⟨b1f (fun h => absurd (cmp_gt.mp c10) (Int64.not_lt.mpr h.2)), rfl⟩
    · refine r_iconst (pc := 13) C (1) dX9_in_13 (by decide) ?_
      refine r_goto (pc := 14) C 18 dX9_in_14 (by decide) ?_
      refine q_zret (pc := 18) C dX9_in_18 rfl (Or.inr rfl) ?_
      exact ⟨b1t ⟨Int64.not_lt.mp (fun h => c3 (cmp_lt.mpr h)), Int64.not_lt.mp (fun h => c10 (cmp_gt.mpr h))⟩, rfl⟩
theorem c_X9_in {G : GG} {kn : Nat} {f : MM} {x lo hi : Int32} {b c : Int64} (hb : b = lo.toInt64) (hc : c = hi.toInt64) : CI G mX9_in 1 kn [.long x.toInt64, .long b, .long c] f (b1 (decide (lo ≤ x ∧ x ≤ hi))) f := by
  subst hb; subst hc
  have e : decide (lo.toInt64 ≤ x.toInt64 ∧ x.toInt64 ≤ hi.toInt64) = decide (lo ≤ x ∧ x ≤ hi) := decide_eq_decide.mpr (by rw [i64le, i64le])
  rw [← e]
  exact c_X9_in64
section RMX
variable {X : XT} {G : GG} {M : MD} {lv mc ms N0 : Nat} {cs sl : Nat} {Q : State → Prop} {N : Nat} {sh : SH} {f : MM} {pc : Nat} {ls : List (Option Value)} {st : List Value}
theorem r_mmax (C : Cx X G M lv mc ms N0) {n idx : Nat} {x y : Int32} (hw : KlS M.1 idx mJ9_max_7cf53 n) (hd : decode M.2.2.1 pc = .ok (.invokestatic idx, 3)) (hlv : 1 ≤ lv) (hr : (st.map fun v => v.category).sum ≤ 8) (hc : cs ≤ mc ∧ sl ≤ ms) (hp : Cond.methodLink M.1 idx yJ9_max_7cf53 ∈ gw) (K : Vw X G M.2.2.2.1 cs sl Q N sh f (pc + 3) ls (.int (if x < y then y else x) :: st)) : Vw X G M.2.2.2.1 cs sl Q N sh f pc ls (.int y :: .int x :: st) := by
  intro H locs arr hP hz hS hl
  obtain ⟨hx, hbb, hml, hown, hts, ⟨hK, hN⟩, -, -, -, -, hR, hsz⟩ := C
  obtain ⟨⟨-, h2, h3, -, -⟩, h4⟩ := hw
  exact va_mmax hx hbb (hml.trans hl.1.symm) hown (hts _ hp) (hts _ h4) (hts _ h2) (hts _ h3) (by rw [hR]; exact hlv) (by rw [hR]; show _ + 13 ≤ 64 * lv + 64; omega) (by rw [hR]; exact hc.1) (by rw [hR]; exact hc.2) hd (K H locs arr hP hz hS hl)
theorem r_mmin (C : Cx X G M lv mc ms N0) {n idx : Nat} {x y : Int32} (hw : KlS M.1 idx mJ9_min_7cf53 n) (hd : decode M.2.2.1 pc = .ok (.invokestatic idx, 3)) (hlv : 1 ≤ lv) (hr : (st.map fun v => v.category).sum ≤ 8) (hc : cs ≤ mc ∧ sl ≤ ms) (hp : Cond.methodLink M.1 idx yJ9_min_7cf53 ∈ gw) (K : Vw X G M.2.2.2.1 cs sl Q N sh f (pc + 3) ls (.int (if y < x then y else x) :: st)) : Vw X G M.2.2.2.1 cs sl Q N sh f pc ls (.int y :: .int x :: st) := by
  intro H locs arr hP hz hS hl
  obtain ⟨hx, hbb, hml, hown, hts, ⟨hK, hN⟩, -, -, -, -, hR, hsz⟩ := C
  obtain ⟨⟨-, h2, h3, -, -⟩, h4⟩ := hw
  exact va_mmin hx hbb (hml.trans hl.1.symm) hown (hts _ hp) (hts _ h4) (hts _ h2) (hts _ h3) (by rw [hR]; exact hlv) (by rw [hR]; show _ + 13 ≤ 64 * lv + 64; omega) (by rw [hR]; exact hc.1) (by rw [hR]; exact hc.2) hd (K H locs arr hP hz hS hl)
end RMX
