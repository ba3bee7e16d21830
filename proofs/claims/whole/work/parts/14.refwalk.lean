/-! WALKING, over the reference's row of numbers -/
theorem u2_up {f : MM} {k j : Nat} {v : Int32} : u2 f k j v = va_up f k (upd (f k) j v) := by
  funext a b
  by_cases h : a = k
  · subst h; simp [u2, va_up, upd]
  · simp [u2, va_up, h]
theorem up_at {f : MM} {k : Nat} {s : Nat → Int32} : va_up f k s k = s := by simp [va_up]
theorem up_ne {f : MM} {k j : Nat} {s : Nat → Int32} (h : j ≠ k) : va_up f k s j = f j := by simp [va_up, h]
theorem up_up {f : MM} {k : Nat} {s t : Nat → Int32} : va_up (va_up f k s) k t = va_up f k t := by
  funext a
  by_cases h : a = k <;> simp [va_up, h]
theorem up_id {f : MM} {k : Nat} : va_up f k (f k) = f := by
  funext a
  by_cases h : a = k
  · subst h; simp [va_up]
  · simp [va_up, h]
/-- fewer locals need be known -/
def subL : List (Option Value) → List (Option Value) → Prop
  | [], _ => True
  | none :: a, _ :: b => subL a b
  | some v :: a, some w :: b => v = w ∧ subL a b
  | _, _ => False
theorem subL_at : ∀ {a b : List (Option Value)}, subL a b → ∀ {i : Nat} {v : Value}, a[i]? = some (some v) → b[i]? = some (some v)
  | [], _, _, i, v, h => by simp at h
  | none :: a, _ :: b, hs, 0, v, h => by simp at h
  | none :: a, _ :: b, hs, i + 1, v, h => by
    have := subL_at (a := a) (b := b) hs (i := i) (v := v) (by simpa using h)
    simpa using this
  | some x :: a, some w :: b, hs, 0, v, h => by
    have e : x = w := hs.1
    simpa [e] using h
  | some x :: a, some w :: b, hs, i + 1, v, h => by
    have := subL_at (a := a) (b := b) hs.2 (i := i) (v := v) (by simpa using h)
    simpa using this
  | none :: a, [], hs, _, _, _ => by exact absurd hs (by simp [subL])
  | some x :: a, [], hs, _, _, _ => by exact absurd hs (by simp [subL])
  | some x :: a, none :: b, hs, _, _, _ => by exact absurd hs (by simp [subL])
theorem v_drop {X : XT} {G : GG} {nL cs sl : Nat} {Q : State → Prop} {N : Nat} {sh : SH} {f : MM} {pc : Nat} {ls : List (Option Value)} {st : List Value} (ls' : List (Option Value)) (hs : subL ls' ls) (K : Vw X G nL cs sl Q N sh f pc ls' st) : Vw X G nL cs sl Q N sh f pc ls st :=
  fun H locs arr hP hz hS hl => K H locs arr hP hz hS ⟨hl.1, hl.2.1, fun i v h => hl.2.2 i v (subL_at hs h)⟩
def oneS (pace sack tired : Int32) : Int32 := pace + (tired + 2 * sack) / 8
def tkW (kind pace sack tired miles : Int32) : Int32 := miles * (if kind = 2 then (if oneS pace sack tired ≤ 2 then 1 else oneS pace sack tired - 1) else if kind < 4 then oneS pace sack tired else oneS pace sack tired + 3)
def takesS (st : Nat → Int32) (w leg : Nat) : Int32 := tkW (st (14 + w)) (st (20 + w)) (st (26 + w)) (st (32 + w)) (st leg)
def mendS (r : Int32) : Int32 := if 2 ≤ r then (if 10 ≤ r then (if 20 < r then 4 else 6) else 2) else 0
def firstS (st : Nat → Int32) (s : Int32) : Nat → Option Nat
  | 0 => none
  | n + 1 => if hasB s n = true then (match firstS st s n with
    | none => some n
    | some k => if st (38 + k) ≤ st (38 + n) then some k else some n) else firstS st s n
theorem firstS_lt {st : Nat → Int32} {s : Int32} : ∀ {n k : Nat}, firstS st s n = some k → k < n := by
  intro n
  induction n with
  | zero => intro k h; cases h
  | succ n ih =>
    intro k h
    unfold firstS at h
    split at h
    · split at h
      · cases h; omega
      · split at h
        · rename_i h1 _
          cases h
          have := ih h1
          omega
        · cases h; omega
    · have := ih h; omega
def oI : Option Nat → Int32
  | none => -1
  | some k => nI k
def moW (kind sack miles : Int32) (ah : Bool) : Int32 := if kind = 5 then miles * (1 + sack / 2) + miles else if kind = 4 then 0 else if kind = 3 then (if ah = true then 0 else miles * (1 + sack / 2)) else miles * (1 + sack / 2)
def moreS (st : Nat → Int32) (ah : Option Nat) (w leg : Nat) : Int32 := moW (st (14 + w)) (st (26 + w)) (st leg) (decide (ah = some w))
/-- the leg walked by the first i of n walkers -/
def walkP (n i : Nat) (st : Nat → Int32) (s : Int32) (leg : Nat) : Nat → Int32 := fun k =>
  if 32 ≤ k ∧ k < 32 + i ∧ hasB s (k - 32) = true then st k + moreS st (firstS st s n) (k - 32) leg
  else if 38 ≤ k ∧ k < 38 + i ∧ hasB s (k - 38) = true then st k + takesS st (k - 38) leg else st k
theorem walkP_0 {n : Nat} {st : Nat → Int32} {s : Int32} {leg : Nat} : walkP n 0 st s leg = st := by
  funext k
  unfold walkP
  rw [if_neg (by omega), if_neg (by omega)]
theorem walkP_lo {n i k : Nat} {st : Nat → Int32} {s : Int32} {leg : Nat} (h : k < 32) : walkP n i st s leg k = st k := by
  unfold walkP
  rw [if_neg (by omega), if_neg (by omega)]
theorem walkP_hi {n i k : Nat} {st : Nat → Int32} {s : Int32} {leg : Nat} (h : 44 ≤ k) (hi : i ≤ 6) : walkP n i st s leg k = st k := by
  unfold walkP
  rw [if_neg (by omega), if_neg (by omega)]
theorem walkP_t {n i : Nat} {st : Nat → Int32} {s : Int32} {leg : Nat} : walkP n i st s leg (32 + i) = (if 6 ≤ i then walkP n i st s leg (32 + i) else st (32 + i)) := by
  by_cases h : 6 ≤ i
  · rw [if_pos h]
  · rw [if_neg h]
    unfold walkP
    rw [if_neg (by omega), if_neg (by omega)]
theorem walkP_l {n i : Nat} {st : Nat → Int32} {s : Int32} {leg : Nat} (hi : i ≤ 6) : walkP n i st s leg (38 + i) = st (38 + i) := by
  unfold walkP
  rw [if_neg (by omega), if_neg (by omega)]
theorem walkP_no {n i : Nat} {st : Nat → Int32} {s : Int32} {leg : Nat} (h : hasB s i = false) : walkP n (i + 1) st s leg = walkP n i st s leg := by
  funext k
  unfold walkP
  by_cases h1 : k = 32 + i
  · subst h1
    have e : 32 + i - 32 = i := by omega
    rw [e, h]
    simp
    by_cases h2 : 38 ≤ 32 + i
    · simp [h2, show 32 + i < 38 + (i + 1) by omega, show 32 + i < 38 + i by omega]
    · simp [h2]
  · by_cases h2 : k = 38 + i
    · subst h2
      have e : 38 + i - 38 = i := by omega
      have e2 : 38 + i - 32 = 6 + i := by omega
      rw [e, h, e2]
      simp [show ¬ 38 + i < 32 + (i + 1) by omega, show ¬ 38 + i < 32 + i by omega]
    · have a1 : (k < 32 + (i + 1)) = (k < 32 + i) := by apply propext; omega
      have a2 : (k < 38 + (i + 1)) = (k < 38 + i) := by apply propext; omega
      simp only [a1, a2]
theorem walkP_st {n i : Nat} {st : Nat → Int32} {s : Int32} {leg : Nat} (hi : i < 6) (h : hasB s i = true) : upd (upd (walkP n i st s leg) (38 + i) (st (38 + i) + takesS st i leg)) (32 + i) (st (32 + i) + moreS st (firstS st s n) i leg) = walkP n (i + 1) st s leg := by
  funext k
  unfold upd
  by_cases h1 : k = 32 + i
  · rw [if_pos h1]
    unfold walkP
    rw [if_pos ⟨by omega, by omega, by rw [h1, Nat.add_sub_cancel_left]; exact h⟩, h1, Nat.add_sub_cancel_left]
  · rw [if_neg h1]
    by_cases h2 : k = 38 + i
    · rw [if_pos h2]
      unfold walkP
      rw [if_neg (by omega), if_pos ⟨by omega, by omega, by rw [h2, Nat.add_sub_cancel_left]; exact h⟩, h2, Nat.add_sub_cancel_left]
    · rw [if_neg h2]
      unfold walkP
      have a1 : (k < 32 + (i + 1)) = (k < 32 + i) := by apply propext; omega
      have a2 : (k < 38 + (i + 1)) = (k < 38 + i) := by apply propext; omega
      simp only [a1, a2]
theorem oI_eq {a : Option Nat} {i : Nat} (hi : i < 100) (h : ∀ k, a = some k → k < 100) : nI i = oI a ↔ a = some i := by
  cases a with
  | none =>
    refine ⟨fun e => ?_, fun e => by cases e⟩
    have : (nI i).toInt = (-1 : Int32).toInt := by rw [e]; rfl
    rw [nI_toInt (by omega)] at this
    have e2 : (-1 : Int32).toInt = -1 := by decide
    omega
  | some k =>
    have hk := h k rfl
    show nI i = nI k ↔ _
    rw [nI_eq (by omega) (by omega)]
    exact ⟨fun e => by rw [e], fun e => (Option.some.inj e).symm⟩
set_option maxRecDepth 100000 in
set_option maxHeartbeats 4000000 in
theorem c_X9_takesFor {G : GG} {kn : Nat} {f : MM} {w leg : Nat} (hw : w < 6) (hl : leg < 56) : CI G mX9_takesFor 1 kn [.ref (G.1 + 85), .int (nI w), .int (nI leg)] f (takesS (f 89) w leg) f := by
  refine Ct.of [some (.ref (G.1 + 85)), some (.int (nI w)), some (.int (nI leg)), none, none] rfl (by decide +kernel) rfl (Nat.le_of_ble_eq_true rfl) rfl ?_
  intro X C
  refine r_aload_n (pc := 0) C dX9_takesFor_0 rfl ?_
  refine r_getr (pc := 1) C fX9_19 dX9_takesFor_1 (s_85 _) rfl rfl ?_
  refine r_bipush (pc := 4) C (14) dX9_takesFor_4 (by decide) ?_
  refine r_iload_n (pc := 6) C dX9_takesFor_6 rfl ?_
  refine r_iadd (pc := 7) C dX9_takesFor_7 ?_
  refine q_iald (pc := 8) C (14 + w) dX9_takesFor_8 (s_89 _) (sn_89 _) (nI_add 14 w) (by omega) (by decide) ?_
  refine r_istore_n (pc := 9) C dX9_takesFor_9 (by decide) rfl ?_
  refine r_aload_n (pc := 10) C dX9_takesFor_10 rfl ?_
  refine r_getr (pc := 11) C fX9_19 dX9_takesFor_11 (s_85 _) rfl rfl ?_
  refine r_bipush (pc := 14) C (20) dX9_takesFor_14 (by decide) ?_
  refine r_iload_n (pc := 16) C dX9_takesFor_16 rfl ?_
  refine r_iadd (pc := 17) C dX9_takesFor_17 ?_
  refine q_iald (pc := 18) C (20 + w) dX9_takesFor_18 (s_89 _) (sn_89 _) (nI_add 20 w) (by omega) (by decide) ?_
  refine r_aload_n (pc := 19) C dX9_takesFor_19 rfl ?_
  refine r_getr (pc := 20) C fX9_19 dX9_takesFor_20 (s_85 _) rfl rfl ?_
  refine r_bipush (pc := 23) C (32) dX9_takesFor_23 (by decide) ?_
  refine r_iload_n (pc := 25) C dX9_takesFor_25 rfl ?_
  refine r_iadd (pc := 26) C dX9_takesFor_26 ?_
  refine q_iald (pc := 27) C (32 + w) dX9_takesFor_27 (s_89 _) (sn_89 _) (nI_add 32 w) (by omega) (by decide) ?_
  refine r_iconst (pc := 28) C (2) dX9_takesFor_28 (by decide) ?_
  refine r_aload_n (pc := 29) C dX9_takesFor_29 rfl ?_
  refine r_getr (pc := 30) C fX9_19 dX9_takesFor_30 (s_85 _) rfl rfl ?_
  refine r_bipush (pc := 33) C (26) dX9_takesFor_33 (by decide) ?_
  refine r_iload_n (pc := 35) C dX9_takesFor_35 rfl ?_
  refine r_iadd (pc := 36) C dX9_takesFor_36 ?_
  refine q_iald (pc := 37) C (26 + w) dX9_takesFor_37 (s_89 _) (sn_89 _) (nI_add 26 w) (by omega) (by decide) ?_
  refine r_imul (pc := 38) C dX9_takesFor_38 ?_
  refine r_iadd (pc := 39) C dX9_takesFor_39 ?_
  refine r_bipush (pc := 40) C (8) dX9_takesFor_40 (by decide) ?_
  refine r_idiv (pc := 42) C dX9_takesFor_42 (by decide) ?_
  refine r_iadd (pc := 43) C dX9_takesFor_43 ?_
  refine r_istore (pc := 44) C dX9_takesFor_44 (by decide) rfl ?_
  refine r_iload_n (pc := 46) C dX9_takesFor_46 rfl ?_
  refine r_iconst (pc := 47) C (2) dX9_takesFor_47 (by decide) ?_
  refine r_icmp_ne (pc := 48) C 68 dX9_takesFor_48 (by decide) (fun c48 => ?_) (fun c48 => ?_)
  · refine r_iload_n (pc := 68) C dX9_takesFor_68 rfl ?_
    refine r_iconst (pc := 69) C (4) dX9_takesFor_69 (by decide) ?_
    refine r_icmp_lt (pc := 70) C 80 dX9_takesFor_70 (by decide) (fun c70 => ?_) (fun c70 => ?_)
    · refine r_iload (pc := 80) C dX9_takesFor_80 rfl ?_
      refine r_istore (pc := 82) C dX9_takesFor_82 (by decide) rfl ?_
      refine r_aload_n (pc := 84) C dX9_takesFor_84 rfl ?_
      refine r_getr (pc := 85) C fX9_19 dX9_takesFor_85 (s_85 _) rfl rfl ?_
      refine r_iload_n (pc := 88) C dX9_takesFor_88 rfl ?_
      refine q_iald (pc := 89) C leg dX9_takesFor_89 (s_89 _) (sn_89 _) rfl (by omega) (by decide) ?_
      refine r_iload (pc := 90) C dX9_takesFor_90 rfl ?_
      refine r_imul (pc := 92) C dX9_takesFor_92 ?_
      refine q_iret (pc := 93) C dX9_takesFor_93 rfl ?_
      exact ⟨by simp [takesS, tkW, oneS, c48, c70], rfl⟩
    · refine r_iload (pc := 73) C dX9_takesFor_73 rfl ?_
      refine r_iconst (pc := 75) C (3) dX9_takesFor_75 (by decide) ?_
      refine r_iadd (pc := 76) C dX9_takesFor_76 ?_
      refine r_goto (pc := 77) C 82 dX9_takesFor_77 (by decide) ?_
      refine r_istore (pc := 82) C dX9_takesFor_82 (by decide) rfl ?_
      refine r_aload_n (pc := 84) C dX9_takesFor_84 rfl ?_
      refine r_getr (pc := 85) C fX9_19 dX9_takesFor_85 (s_85 _) rfl rfl ?_
      refine r_iload_n (pc := 88) C dX9_takesFor_88 rfl ?_
      refine q_iald (pc := 89) C leg dX9_takesFor_89 (s_89 _) (sn_89 _) rfl (by omega) (by decide) ?_
      refine r_iload (pc := 90) C dX9_takesFor_90 rfl ?_
      refine r_imul (pc := 92) C dX9_takesFor_92 ?_
      refine q_iret (pc := 93) C dX9_takesFor_93 rfl ?_
      exact ⟨by simp [takesS, tkW, oneS, c48, c70], rfl⟩
  · refine r_iload (pc := 51) C dX9_takesFor_51 rfl ?_
    refine r_iconst (pc := 53) C (2) dX9_takesFor_53 (by decide) ?_
    refine r_icmp_le (pc := 54) C 64 dX9_takesFor_54 (by decide) (fun c54 => ?_) (fun c54 => ?_)
    · refine r_iconst (pc := 64) C (1) dX9_takesFor_64 (by decide) ?_
      refine r_goto (pc := 65) C 82 dX9_takesFor_65 (by decide) ?_
      refine r_istore (pc := 82) C dX9_takesFor_82 (by decide) rfl ?_
      refine r_aload_n (pc := 84) C dX9_takesFor_84 rfl ?_
      refine r_getr (pc := 85) C fX9_19 dX9_takesFor_85 (s_85 _) rfl rfl ?_
      refine r_iload_n (pc := 88) C dX9_takesFor_88 rfl ?_
      refine q_iald (pc := 89) C leg dX9_takesFor_89 (s_89 _) (sn_89 _) rfl (by omega) (by decide) ?_
      refine r_iload (pc := 90) C dX9_takesFor_90 rfl ?_
      refine r_imul (pc := 92) C dX9_takesFor_92 ?_
      refine q_iret (pc := 93) C dX9_takesFor_93 rfl ?_
      exact ⟨by simp [takesS, tkW, oneS, c48, c54], rfl⟩
    · refine r_iload (pc := 57) C dX9_takesFor_57 rfl ?_
      refine r_iconst (pc := 59) C (1) dX9_takesFor_59 (by decide) ?_
      refine r_isub (pc := 60) C dX9_takesFor_60 ?_
      refine r_goto (pc := 61) C 82 dX9_takesFor_61 (by decide) ?_
      refine r_istore (pc := 82) C dX9_takesFor_82 (by decide) rfl ?_
      refine r_aload_n (pc := 84) C dX9_takesFor_84 rfl ?_
      refine r_getr (pc := 85) C fX9_19 dX9_takesFor_85 (s_85 _) rfl rfl ?_
      refine r_iload_n (pc := 88) C dX9_takesFor_88 rfl ?_
      refine q_iald (pc := 89) C leg dX9_takesFor_89 (s_89 _) (sn_89 _) rfl (by omega) (by decide) ?_
      refine r_iload (pc := 90) C dX9_takesFor_90 rfl ?_
      refine r_imul (pc := 92) C dX9_takesFor_92 ?_
      refine q_iret (pc := 93) C dX9_takesFor_93 rfl ?_
      exact ⟨by simp [takesS, tkW, oneS, c48, c54], rfl⟩
set_option maxRecDepth 100000 in
set_option maxHeartbeats 4000000 in
theorem c_X9_mendBy {G : GG} {kn : Nat} {f : MM} {a : Int32} : CI G mX9_mendBy 1 kn [.int a] f (mendS a) f := by
  refine Ct.of [some (.int a)] rfl (by decide +kernel) rfl (Nat.le_of_ble_eq_true rfl) rfl ?_
  intro X C
  refine r_iload_n (pc := 0) C dX9_mendBy_0 rfl ?_
  refine r_iconst (pc := 1) C (2) dX9_mendBy_1 (by decide) ?_
  refine r_icmp_ge (pc := 2) C 9 dX9_mendBy_2 (by decide) (fun c2 => ?_) (fun c2 => ?_)
  · refine r_iload_n (pc := 9) C dX9_mendBy_9 rfl ?_
    refine r_bipush (pc := 10) C (10) dX9_mendBy_10 (by decide) ?_
    refine r_icmp_ge (pc := 12) C 19 dX9_mendBy_12 (by decide) (fun c12 => ?_) (fun c12 => ?_)
    · refine r_iload_n (pc := 19) C dX9_mendBy_19 rfl ?_
      refine r_bipush (pc := 20) C (20) dX9_mendBy_20 (by decide) ?_
      refine r_icmp_gt (pc := 22) C 30 dX9_mendBy_22 (by decide) (fun c22 => ?_) (fun c22 => ?_)
      · refine r_iconst (pc := 30) C (4) dX9_mendBy_30 (by decide) ?_
        refine q_iret (pc := 31) C dX9_mendBy_31 rfl ?_
        exact ⟨by simp [mendS, c2, c12, c22], rfl⟩
      · refine r_bipush (pc := 25) C (6) dX9_mendBy_25 (by decide) ?_
        refine r_goto (pc := 27) C 31 dX9_mendBy_27 (by decide) ?_
        refine q_iret (pc := 31) C dX9_mendBy_31 rfl ?_
        exact ⟨by simp [mendS, c2, c12, c22], rfl⟩
    · refine r_iconst (pc := 15) C (2) dX9_mendBy_15 (by decide) ?_
      refine r_goto (pc := 16) C 31 dX9_mendBy_16 (by decide) ?_
      refine q_iret (pc := 31) C dX9_mendBy_31 rfl ?_
      exact ⟨by simp [mendS, c2, c12], rfl⟩
  · refine r_iconst (pc := 5) C (0) dX9_mendBy_5 (by decide) ?_
    refine r_goto (pc := 6) C 31 dX9_mendBy_6 (by decide) ?_
    refine q_iret (pc := 31) C dX9_mendBy_31 rfl ?_
    exact ⟨by simp [mendS, c2], rfl⟩
set_option maxRecDepth 100000 in
set_option maxHeartbeats 4000000 in
theorem l_first {X : XT} {G : GG} {kn : Nat} {Q : State → Prop} {f : MM} {n : Nat} (C : Cx X G mX9_first 2 0 0 (NN kn)) (hn : n ≤ 6) (h13 : f 89 13 = nI n) (K : Vw X G mX9_first.2.2.2.1 0 0 Q (NN kn) (shF kn) f 73 [some (.ref (G.1 + 85)), some (.int (oI (firstS (f 89) (f 85 16) n))), some (.int (nI n)), none] []) : ∀ (m i : Nat), i + m = n → Vw X G mX9_first.2.2.2.1 0 0 Q (NN kn) (shF kn) f 4 [some (.ref (G.1 + 85)), some (.int (oI (firstS (f 89) (f 85 16) i))), some (.int (nI i)), none] [] := by
  intro m
  induction m with
  | zero =>
    intro i hm
    obtain rfl : n = i := by omega
    refine r_iload_n (pc := 4) C dX9_first_4 rfl ?_
    refine r_aload_n (pc := 5) C dX9_first_5 rfl ?_
    refine r_getr (pc := 6) C fX9_19 dX9_first_6 (s_85 _) rfl rfl ?_
    refine r_bipush (pc := 9) C (13) dX9_first_9 (by decide) ?_
    refine q_iald (pc := 11) C 13 dX9_first_11 (s_89 _) (sn_89 _) rfl (by omega) (by decide) ?_
    refine q_ge (pc := 12) C n n 73 rfl h13 (by omega) (by omega) dX9_first_12 (by decide) (fun c12 => ?_) (fun c12 => ?_)
    · exact K
    · exact absurd c12 (by omega)
  | succ m ih =>
    intro i hm
    have es : firstS (f 89) (f 85 16) (i + 1) = if hasB (f 85 16) i = true then (match firstS (f 89) (f 85 16) i with
      | none => some i
      | some k => if (f 89) (38 + k) ≤ (f 89) (38 + i) then some k else some i) else firstS (f 89) (f 85 16) i := rfl
    cases ho : firstS (f 89) (f 85 16) i with
    | none =>
      rw [ho] at es
      refine r_iload_n (pc := 4) C dX9_first_4 rfl ?_
      refine r_aload_n (pc := 5) C dX9_first_5 rfl ?_
      refine r_getr (pc := 6) C fX9_19 dX9_first_6 (s_85 _) rfl rfl ?_
      refine r_bipush (pc := 9) C (13) dX9_first_9 (by decide) ?_
      refine q_iald (pc := 11) C 13 dX9_first_11 (s_89 _) (sn_89 _) rfl (by omega) (by decide) ?_
      refine q_ge (pc := 12) C i n 73 rfl h13 (by omega) (by omega) dX9_first_12 (by decide) (fun c12 => ?_) (fun c12 => ?_)
      · exact absurd c12 (by omega)
      · refine r_aload_n (pc := 15) C dX9_first_15 rfl ?_
        refine r_get (pc := 16) C fX9_161 dX9_first_16 (s_85 _) rfl ?_
        refine r_iload_n (pc := 19) C dX9_first_19 rfl ?_
        refine q_sIf (pc := 20) C kX9_164 dX9_first_20 (c_X9_has rfl) rfl rfl (Nat.le_of_ble_eq_true rfl) (by decide) ⟨by decide, by decide⟩ ?_
        refine r_if_eq (pc := 23) C 55 dX9_first_23 (by decide) (fun c23 => ?_) (fun c23 => ?_)
        · replace c23 := b1_0 c23
          refine r_iconst (pc := 55) C (0) dX9_first_55 (by decide) ?_
          refine r_istore_n (pc := 56) C dX9_first_56 (by decide) rfl ?_
          refine r_iload_n (pc := 57) C dX9_first_57 rfl ?_
          refine r_if_eq (pc := 58) C 65 dX9_first_58 (by decide) (fun c58 => ?_) (fun c58 => ?_)
          · refine r_iload_n (pc := 65) C dX9_first_65 rfl ?_
            refine r_istore_n (pc := 66) C dX9_first_66 (by decide) rfl ?_
            refine r_iinc (pc := 67) C (nI (i + 1)) dX9_first_67 rfl (nI_inc _) (by decide) rfl ?_
            refine r_goto (pc := 70) C 4 dX9_first_70 (by decide) ?_
            have e1 : firstS (f 89) (f 85 16) (i + 1) = none := by rw [es]; simp [ho, c23]
            have h := ih (i + 1) (by omega)
            rw [e1] at h
            refine v_drop _ (by repeat (first | exact trivial | exact rfl | constructor)) h
          · exact absurd rfl c58
        · replace c23 := b1_1 c23
          refine r_iload_n (pc := 26) C dX9_first_26 rfl ?_
          refine r_if_lt (pc := 27) C 51 dX9_first_27 (by decide) (fun c27 => ?_) (fun c27 => ?_)
          · refine r_iconst (pc := 51) C (1) dX9_first_51 (by decide) ?_
            refine r_goto (pc := 52) C 56 dX9_first_52 (by decide) ?_
            refine r_istore_n (pc := 56) C dX9_first_56 (by decide) rfl ?_
            refine r_iload_n (pc := 57) C dX9_first_57 rfl ?_
            refine r_if_eq (pc := 58) C 65 dX9_first_58 (by decide) (fun c58 => ?_) (fun c58 => ?_)
            · exact absurd c58 (by decide)
            · refine r_iload_n (pc := 61) C dX9_first_61 rfl ?_
              refine r_goto (pc := 62) C 66 dX9_first_62 (by decide) ?_
              refine r_istore_n (pc := 66) C dX9_first_66 (by decide) rfl ?_
              refine r_iinc (pc := 67) C (nI (i + 1)) dX9_first_67 rfl (nI_inc _) (by decide) rfl ?_
              refine r_goto (pc := 70) C 4 dX9_first_70 (by decide) ?_
              have e1 : firstS (f 89) (f 85 16) (i + 1) = some i := by rw [es]; simp [ho, c23]
              have h := ih (i + 1) (by omega)
              rw [e1] at h
              refine v_drop _ (by repeat (first | exact trivial | exact rfl | constructor)) h
          · exact absurd c27 (by decide)
    | some k =>
      rw [ho] at es
      have hk := firstS_lt ho
      refine r_iload_n (pc := 4) C dX9_first_4 rfl ?_
      refine r_aload_n (pc := 5) C dX9_first_5 rfl ?_
      refine r_getr (pc := 6) C fX9_19 dX9_first_6 (s_85 _) rfl rfl ?_
      refine r_bipush (pc := 9) C (13) dX9_first_9 (by decide) ?_
      refine q_iald (pc := 11) C 13 dX9_first_11 (s_89 _) (sn_89 _) rfl (by omega) (by decide) ?_
      refine q_ge (pc := 12) C i n 73 rfl h13 (by omega) (by omega) dX9_first_12 (by decide) (fun c12 => ?_) (fun c12 => ?_)
      · exact absurd c12 (by omega)
      · refine r_aload_n (pc := 15) C dX9_first_15 rfl ?_
        refine r_get (pc := 16) C fX9_161 dX9_first_16 (s_85 _) rfl ?_
        refine r_iload_n (pc := 19) C dX9_first_19 rfl ?_
        refine q_sIf (pc := 20) C kX9_164 dX9_first_20 (c_X9_has rfl) rfl rfl (Nat.le_of_ble_eq_true rfl) (by decide) ⟨by decide, by decide⟩ ?_
        refine r_if_eq (pc := 23) C 55 dX9_first_23 (by decide) (fun c23 => ?_) (fun c23 => ?_)
        · replace c23 := b1_0 c23
          refine r_iconst (pc := 55) C (0) dX9_first_55 (by decide) ?_
          refine r_istore_n (pc := 56) C dX9_first_56 (by decide) rfl ?_
          refine r_iload_n (pc := 57) C dX9_first_57 rfl ?_
          refine r_if_eq (pc := 58) C 65 dX9_first_58 (by decide) (fun c58 => ?_) (fun c58 => ?_)
          · refine r_iload_n (pc := 65) C dX9_first_65 rfl ?_
            refine r_istore_n (pc := 66) C dX9_first_66 (by decide) rfl ?_
            refine r_iinc (pc := 67) C (nI (i + 1)) dX9_first_67 rfl (nI_inc _) (by decide) rfl ?_
            refine r_goto (pc := 70) C 4 dX9_first_70 (by decide) ?_
            have e1 : firstS (f 89) (f 85 16) (i + 1) = some k := by rw [es]; simp [ho, c23]
            have h := ih (i + 1) (by omega)
            rw [e1] at h
            refine v_drop _ (by repeat (first | exact trivial | exact rfl | constructor)) h
          · exact absurd rfl c58
        · replace c23 := b1_1 c23
          refine r_iload_n (pc := 26) C dX9_first_26 rfl ?_
          refine r_if_lt (pc := 27) C 51 dX9_first_27 (by decide) (fun c27 => ?_) (fun c27 => ?_)
          · exact absurd c27 (nI_pos (by omega))
          · refine r_aload_n (pc := 30) C dX9_first_30 rfl ?_
            refine r_getr (pc := 31) C fX9_19 dX9_first_31 (s_85 _) rfl rfl ?_
            refine r_bipush (pc := 34) C (38) dX9_first_34 (by decide) ?_
            refine r_iload_n (pc := 36) C dX9_first_36 rfl ?_
            refine r_iadd (pc := 37) C dX9_first_37 ?_
            refine q_iald (pc := 38) C (38 + i) dX9_first_38 (s_89 _) (sn_89 _) (nI_add 38 i) (by omega) (by decide) ?_
            refine r_aload_n (pc := 39) C dX9_first_39 rfl ?_
            refine r_getr (pc := 40) C fX9_19 dX9_first_40 (s_85 _) rfl rfl ?_
            refine r_bipush (pc := 43) C (38) dX9_first_43 (by decide) ?_
            refine r_iload_n (pc := 45) C dX9_first_45 rfl ?_
            refine r_iadd (pc := 46) C dX9_first_46 ?_
            refine q_iald (pc := 47) C (38 + k) dX9_first_47 (s_89 _) (sn_89 _) (nI_add 38 k) (by omega) (by decide) ?_
            refine r_icmp_ge (pc := 48) C 55 dX9_first_48 (by decide) (fun c48 => ?_) (fun c48 => ?_)
            · refine r_iconst (pc := 55) C (0) dX9_first_55 (by decide) ?_
              refine r_istore_n (pc := 56) C dX9_first_56 (by decide) rfl ?_
              refine r_iload_n (pc := 57) C dX9_first_57 rfl ?_
              refine r_if_eq (pc := 58) C 65 dX9_first_58 (by decide) (fun c58 => ?_) (fun c58 => ?_)
              · refine r_iload_n (pc := 65) C dX9_first_65 rfl ?_
                refine r_istore_n (pc := 66) C dX9_first_66 (by decide) rfl ?_
                refine r_iinc (pc := 67) C (nI (i + 1)) dX9_first_67 rfl (nI_inc _) (by decide) rfl ?_
                refine r_goto (pc := 70) C 4 dX9_first_70 (by decide) ?_
                have e1 : firstS (f 89) (f 85 16) (i + 1) = some k := by rw [es]; simp [ho, c23, c48]
                have h := ih (i + 1) (by omega)
                rw [e1] at h
                refine v_drop _ (by repeat (first | exact trivial | exact rfl | constructor)) h
              · exact absurd rfl c58
            · refine r_iconst (pc := 51) C (1) dX9_first_51 (by decide) ?_
              refine r_goto (pc := 52) C 56 dX9_first_52 (by decide) ?_
              refine r_istore_n (pc := 56) C dX9_first_56 (by decide) rfl ?_
              refine r_iload_n (pc := 57) C dX9_first_57 rfl ?_
              refine r_if_eq (pc := 58) C 65 dX9_first_58 (by decide) (fun c58 => ?_) (fun c58 => ?_)
              · exact absurd c58 (by decide)
              · refine r_iload_n (pc := 61) C dX9_first_61 rfl ?_
                refine r_goto (pc := 62) C 66 dX9_first_62 (by decide) ?_
                refine r_istore_n (pc := 66) C dX9_first_66 (by decide) rfl ?_
                refine r_iinc (pc := 67) C (nI (i + 1)) dX9_first_67 rfl (nI_inc _) (by decide) rfl ?_
                refine r_goto (pc := 70) C 4 dX9_first_70 (by decide) ?_
                have e1 : firstS (f 89) (f 85 16) (i + 1) = some i := by rw [es]; simp [ho, c23, c48]
                have h := ih (i + 1) (by omega)
                rw [e1] at h
                refine v_drop _ (by repeat (first | exact trivial | exact rfl | constructor)) h
set_option maxRecDepth 100000 in
set_option maxHeartbeats 4000000 in
theorem c_X9_first {G : GG} {kn : Nat} {f : MM} {n : Nat} (hn : n ≤ 6) (h13 : f 89 13 = nI n) : CI G mX9_first 2 kn [.ref (G.1 + 85)] f (oI (firstS (f 89) (f 85 16) n)) f := by
  refine Ct.of [some (.ref (G.1 + 85)), none, none, none] rfl (by decide +kernel) rfl (Nat.le_of_ble_eq_true rfl) rfl ?_
  intro X C
  refine r_iconst (pc := 0) C (-1) dX9_first_0 (by decide) ?_
  refine r_istore_n (pc := 1) C dX9_first_1 (by decide) rfl ?_
  refine r_iconst (pc := 2) C (0) dX9_first_2 (by decide) ?_
  refine r_istore_n (pc := 3) C dX9_first_3 (by decide) rfl ?_
  refine l_first C hn h13 ?_ n 0 (by omega)
  refine r_iload_n (pc := 73) C dX9_first_73 rfl ?_
  refine q_iret (pc := 74) C dX9_first_74 rfl ?_
  exact ⟨rfl, rfl⟩
theorem u2_va {f : MM} {k j : Nat} {p : Nat → Int32} {v : Int32} : u2 (va_up f k p) k j v = va_up f k (upd p j v) := by rw [u2_up, up_at, up_up]
set_option maxRecDepth 100000 in
set_option maxHeartbeats 4000000 in
theorem l_walk {X : XT} {G : GG} {kn : Nat} {Q : State → Prop} {f : MM} {n leg : Nat} (C : Cx X G mX9_walk 3 0 0 (NN kn)) (hn : n ≤ 6) (hl : leg < 14) (h13 : f 89 13 = nI n) (K : Vw X G mX9_walk.2.2.2.1 0 0 Q (NN kn) (shF kn) (va_up f 89 (walkP n n (f 89) (f 85 16) leg)) 143 [some (.ref (G.1 + 85)), some (.int (nI leg)), some (.int (oI (firstS (f 89) (f 85 16) n))), some (.int (nI n)), none, none, none] []) : ∀ (m i : Nat), i + m = n → Vw X G mX9_walk.2.2.2.1 0 0 Q (NN kn) (shF kn) (va_up f 89 (walkP n i (f 89) (f 85 16) leg)) 7 [some (.ref (G.1 + 85)), some (.int (nI leg)), some (.int (oI (firstS (f 89) (f 85 16) n))), some (.int (nI i)), none, none, none] [] := by
  intro m
  induction m with
  | zero =>
    intro i hm
    obtain rfl : n = i := by omega
    refine r_iload_n (pc := 7) C dX9_walk_7 rfl ?_
    refine r_aload_n (pc := 8) C dX9_walk_8 rfl ?_
    refine r_getr (pc := 9) C fX9_19 dX9_walk_9 (s_85 _) rfl rfl ?_
    refine r_bipush (pc := 12) C (13) dX9_walk_12 (by decide) ?_
    refine q_iald (pc := 14) C 13 dX9_walk_14 (s_89 _) (sn_89 _) rfl (by omega) (by decide) ?_
    refine q_ge (pc := 15) C n n 143 rfl (by rw [up_at, walkP_lo (by decide)]; exact h13) (by omega) (by omega) dX9_walk_15 (by decide) (fun c15 => ?_) (fun c15 => ?_)
    · exact K
    · exact absurd c15 (by omega)
  | succ m ih =>
    intro i hm
    have J : hasB (f 85 16) i = true → Vw X G mX9_walk.2.2.2.1 0 0 Q (NN kn) (shF kn) (va_up f 89 (walkP n i (f 89) (f 85 16) leg)) 103 [some (.ref (G.1 + 85)), some (.int (nI leg)), some (.int (oI (firstS (f 89) (f 85 16) n))), some (.int (nI i)), none, none, none] [.int (moreS (f 89) (firstS (f 89) (f 85 16) n) i leg)] := by
      intro hh
      refine r_istore (pc := 103) C dX9_walk_103 (by decide) rfl ?_
      refine r_aload_n (pc := 105) C dX9_walk_105 rfl ?_
      refine r_getr (pc := 106) C fX9_19 dX9_walk_106 (s_85 _) rfl rfl ?_
      refine r_bipush (pc := 109) C (38) dX9_walk_109 (by decide) ?_
      refine r_iload_n (pc := 111) C dX9_walk_111 rfl ?_
      refine r_iadd (pc := 112) C dX9_walk_112 ?_
      refine r_dup2 (pc := 113) C dX9_walk_113 rfl rfl ?_
      refine q_iald (pc := 114) C (38 + i) dX9_walk_114 (s_89 _) (sn_89 _) (nI_add 38 i) (by omega) (by decide) ?_
      refine q_val (f 89 (38 + i)) (walkP_l (by omega)) ?_
      refine r_aload_n (pc := 115) C dX9_walk_115 rfl ?_
      refine r_iload_n (pc := 116) C dX9_walk_116 rfl ?_
      refine r_iload_n (pc := 117) C dX9_walk_117 rfl ?_
      refine q_vIf (pc := 118) C kX9_170 dX9_walk_118 (c_X9_takesFor (w := i) (leg := leg) (by omega) (by omega)) (s_85 _) rfl rfl (Nat.le_of_ble_eq_true rfl) (by decide) ⟨by decide, by decide⟩ ?_
      refine q_val (takesS (f 89) i leg) (by simp only [takesS, up_at]; rw [walkP_lo (k := 14 + i) (by omega), walkP_lo (k := 20 + i) (by omega), walkP_lo (k := 26 + i) (by omega), walkP_t, if_neg (by omega), walkP_lo (k := leg) (by omega)]) ?_
      refine r_iadd (pc := 121) C dX9_walk_121 ?_
      refine q_iast (pc := 122) C (38 + i) dX9_walk_122 (s_89 _) (sn_89 _) (nI_add 38 i) (by omega) (by decide) ?_
      refine r_aload_n (pc := 123) C dX9_walk_123 rfl ?_
      refine r_getr (pc := 124) C fX9_19 dX9_walk_124 (s_85 _) rfl rfl ?_
      refine r_bipush (pc := 127) C (32) dX9_walk_127 (by decide) ?_
      refine r_iload_n (pc := 129) C dX9_walk_129 rfl ?_
      refine r_iadd (pc := 130) C dX9_walk_130 ?_
      refine r_dup2 (pc := 131) C dX9_walk_131 rfl rfl ?_
      refine q_iald (pc := 132) C (32 + i) dX9_walk_132 (s_89 _) (sn_89 _) (nI_add 32 i) (by omega) (by decide) ?_
      refine q_val (f 89 (32 + i)) (by rw [u2_va, up_at]; simp only [upd]; rw [if_neg (by omega), walkP_t, if_neg (by omega)]) ?_
      refine r_iload (pc := 133) C dX9_walk_133 rfl ?_
      refine r_iadd (pc := 135) C dX9_walk_135 ?_
      refine q_iast (pc := 136) C (32 + i) dX9_walk_136 (s_89 _) (sn_89 _) (nI_add 32 i) (by omega) (by decide) ?_
      refine r_iinc (pc := 137) C (nI (i + 1)) dX9_walk_137 rfl (nI_inc _) (by decide) rfl ?_
      refine r_goto (pc := 140) C 7 dX9_walk_140 (by decide) ?_
      refine q_f (f' := (va_up f 89 (walkP n (i + 1) (f 89) (f 85 16) leg))) (by rw [u2_va, u2_va, walkP_st (by omega) hh]) ?_
      exact v_drop [some (.ref (G.1 + 85)), some (.int (nI leg)), some (.int (oI (firstS (f 89) (f 85 16) n))), some (.int (nI (i + 1))), none, none, none] (by repeat (first | exact trivial | exact rfl | constructor)) (ih (i + 1) (by omega))
    refine r_iload_n (pc := 7) C dX9_walk_7 rfl ?_
    refine r_aload_n (pc := 8) C dX9_walk_8 rfl ?_
    refine r_getr (pc := 9) C fX9_19 dX9_walk_9 (s_85 _) rfl rfl ?_
    refine r_bipush (pc := 12) C (13) dX9_walk_12 (by decide) ?_
    refine q_iald (pc := 14) C 13 dX9_walk_14 (s_89 _) (sn_89 _) rfl (by omega) (by decide) ?_
    refine q_ge (pc := 15) C i n 143 rfl (by rw [up_at, walkP_lo (by decide)]; exact h13) (by omega) (by omega) dX9_walk_15 (by decide) (fun c15 => ?_) (fun c15 => ?_)
    · exact absurd c15 (by omega)
    · refine r_aload_n (pc := 18) C dX9_walk_18 rfl ?_
      refine r_get (pc := 19) C fX9_161 dX9_walk_19 (s_85 _) rfl ?_
      refine q_val (f 85 16) rfl ?_
      refine r_iload_n (pc := 22) C dX9_walk_22 rfl ?_
      refine q_sIf (pc := 23) C kX9_164 dX9_walk_23 (c_X9_has rfl) rfl rfl (Nat.le_of_ble_eq_true rfl) (by decide) ⟨by decide, by decide⟩ ?_
      refine r_if_eq (pc := 26) C 137 dX9_walk_26 (by decide) (fun c26 => ?_) (fun c26 => ?_)
      · replace c26 := b1_0 c26
        refine r_iinc (pc := 137) C (nI (i + 1)) dX9_walk_137 rfl (nI_inc _) (by decide) rfl ?_
        refine r_goto (pc := 140) C 7 dX9_walk_140 (by decide) ?_
        refine q_f (f' := (va_up f 89 (walkP n (i + 1) (f 89) (f 85 16) leg))) (by rw [walkP_no c26]) ?_
        exact v_drop [some (.ref (G.1 + 85)), some (.int (nI leg)), some (.int (oI (firstS (f 89) (f 85 16) n))), some (.int (nI (i + 1))), none, none, none] (by repeat (first | exact trivial | exact rfl | constructor)) (ih (i + 1) (by omega))
      · replace c26 := b1_1 c26
        refine r_aload_n (pc := 29) C dX9_walk_29 rfl ?_
        refine r_getr (pc := 30) C fX9_19 dX9_walk_30 (s_85 _) rfl rfl ?_
        refine r_bipush (pc := 33) C (14) dX9_walk_33 (by decide) ?_
        refine r_iload_n (pc := 35) C dX9_walk_35 rfl ?_
        refine r_iadd (pc := 36) C dX9_walk_36 ?_
        refine q_iald (pc := 37) C (14 + i) dX9_walk_37 (s_89 _) (sn_89 _) (nI_add 14 i) (by omega) (by decide) ?_
        refine q_val (f 89 (14 + i)) (walkP_lo (by omega)) ?_
        refine r_istore (pc := 38) C dX9_walk_38 (by decide) rfl ?_
        refine r_aload_n (pc := 40) C dX9_walk_40 rfl ?_
        refine r_getr (pc := 41) C fX9_19 dX9_walk_41 (s_85 _) rfl rfl ?_
        refine r_iload_n (pc := 44) C dX9_walk_44 rfl ?_
        refine q_iald (pc := 45) C leg dX9_walk_45 (s_89 _) (sn_89 _) rfl (by omega) (by decide) ?_
        refine q_val (f 89 leg) (walkP_lo (by omega)) ?_
        refine r_istore (pc := 46) C dX9_walk_46 (by decide) rfl ?_
        refine r_iload (pc := 48) C dX9_walk_48 rfl ?_
        refine r_iconst (pc := 50) C (1) dX9_walk_50 (by decide) ?_
        refine r_aload_n (pc := 51) C dX9_walk_51 rfl ?_
        refine r_getr (pc := 52) C fX9_19 dX9_walk_52 (s_85 _) rfl rfl ?_
        refine r_bipush (pc := 55) C (26) dX9_walk_55 (by decide) ?_
        refine r_iload_n (pc := 57) C dX9_walk_57 rfl ?_
        refine r_iadd (pc := 58) C dX9_walk_58 ?_
        refine q_iald (pc := 59) C (26 + i) dX9_walk_59 (s_89 _) (sn_89 _) (nI_add 26 i) (by omega) (by decide) ?_
        refine q_val (f 89 (26 + i)) (walkP_lo (by omega)) ?_
        refine r_iconst (pc := 60) C (2) dX9_walk_60 (by decide) ?_
        refine r_idiv (pc := 61) C dX9_walk_61 (by decide) ?_
        refine r_iadd (pc := 62) C dX9_walk_62 ?_
        refine r_imul (pc := 63) C dX9_walk_63 ?_
        refine r_istore (pc := 64) C dX9_walk_64 (by decide) rfl ?_
        refine r_iload (pc := 66) C dX9_walk_66 rfl ?_
        refine r_iconst (pc := 68) C (5) dX9_walk_68 (by decide) ?_
        refine r_icmp_ne (pc := 69) C 80 dX9_walk_69 (by decide) (fun c69 => ?_) (fun c69 => ?_)
        · refine r_iload (pc := 80) C dX9_walk_80 rfl ?_
          refine r_iconst (pc := 82) C (4) dX9_walk_82 (by decide) ?_
          refine r_icmp_eq (pc := 83) C 97 dX9_walk_83 (by decide) (fun c83 => ?_) (fun c83 => ?_)
          · refine r_iconst (pc := 97) C (0) dX9_walk_97 (by decide) ?_
            refine r_goto (pc := 98) C 103 dX9_walk_98 (by decide) ?_
            refine q_val (moreS (f 89) (firstS (f 89) (f 85 16) n) i leg) (by simp [moreS, moW, c69, c83]) ?_
            exact v_drop _ (by repeat (first | exact trivial | exact rfl | constructor)) (J c26)
          · refine r_iload (pc := 86) C dX9_walk_86 rfl ?_
            refine r_iconst (pc := 88) C (3) dX9_walk_88 (by decide) ?_
            refine r_icmp_ne (pc := 89) C 101 dX9_walk_89 (by decide) (fun c89 => ?_) (fun c89 => ?_)
            · refine r_iload (pc := 101) C dX9_walk_101 rfl ?_
              refine q_val (moreS (f 89) (firstS (f 89) (f 85 16) n) i leg) (by simp [moreS, moW, c69, c83, c89]) ?_
              exact v_drop _ (by repeat (first | exact trivial | exact rfl | constructor)) (J c26)
            · refine r_iload_n (pc := 92) C dX9_walk_92 rfl ?_
              refine r_iload_n (pc := 93) C dX9_walk_93 rfl ?_
              refine r_icmp_ne (pc := 94) C 101 dX9_walk_94 (by decide) (fun c94 => ?_) (fun c94 => ?_)
              · have e94 : ¬ firstS (f 89) (f 85 16) n = some i := fun q => c94 ((oI_eq (by omega) (fun k hk => by have := firstS_lt hk; omega)).mpr q)
                refine r_iload (pc := 101) C dX9_walk_101 rfl ?_
                refine q_val (moreS (f 89) (firstS (f 89) (f 85 16) n) i leg) (by simp [moreS, moW, c69, c83, c89, e94]) ?_
                exact v_drop _ (by repeat (first | exact trivial | exact rfl | constructor)) (J c26)
              · have e94 : firstS (f 89) (f 85 16) n = some i := (oI_eq (by omega) (fun k hk => by have := firstS_lt hk; omega)).mp c94
                refine r_iconst (pc := 97) C (0) dX9_walk_97 (by decide) ?_
                refine r_goto (pc := 98) C 103 dX9_walk_98 (by decide) ?_
                refine q_val (moreS (f 89) (firstS (f 89) (f 85 16) n) i leg) (by simp [moreS, moW, c69, c83, c89, e94]) ?_
                exact v_drop _ (by repeat (first | exact trivial | exact rfl | constructor)) (J c26)
        · refine r_iload (pc := 72) C dX9_walk_72 rfl ?_
          refine r_iload (pc := 74) C dX9_walk_74 rfl ?_
          refine r_iadd (pc := 76) C dX9_walk_76 ?_
          refine r_goto (pc := 77) C 103 dX9_walk_77 (by decide) ?_
          refine q_val (moreS (f 89) (firstS (f 89) (f 85 16) n) i leg) (by simp [moreS, moW, c69]) ?_
          exact v_drop _ (by repeat (first | exact trivial | exact rfl | constructor)) (J c26)
set_option maxRecDepth 100000 in
set_option maxHeartbeats 4000000 in
theorem c_X9_walk {G : GG} {kn : Nat} {f : MM} {n leg : Nat} (hn : n ≤ 6) (hl : leg < 14) (h13 : f 89 13 = nI n) : CV G mX9_walk 3 kn [.ref (G.1 + 85), .int (nI leg)] f (va_up f 89 (walkP n n (f 89) (f 85 16) leg)) := by
  refine Ct.of [some (.ref (G.1 + 85)), some (.int (nI leg)), none, none, none, none, none] rfl (by decide +kernel) rfl (Nat.le_of_ble_eq_true rfl) rfl ?_
  intro X C
  refine r_aload_n (pc := 0) C dX9_walk_0 rfl ?_
  refine q_vIf (pc := 1) C kX9_167 dX9_walk_1 (c_X9_first hn h13) (s_85 _) rfl rfl (Nat.le_of_ble_eq_true rfl) (by decide) ⟨by decide, by decide⟩ ?_
  refine r_istore_n (pc := 4) C dX9_walk_4 (by decide) rfl ?_
  refine r_iconst (pc := 5) C (0) dX9_walk_5 (by decide) ?_
  refine r_istore_n (pc := 6) C dX9_walk_6 (by decide) rfl ?_
  refine q_f (f' := (va_up f 89 (walkP n 0 (f 89) (f 85 16) leg))) (by rw [walkP_0, up_id]) ?_
  refine l_walk C hn hl h13 ?_ n 0 (by omega)
  refine q_vret (pc := 143) C dX9_walk_143 rfl ?_
  rfl
def extS (st : Nat → Int32) (s : Int32) : Nat → Bool × Int32 × Int32
  | 0 => (false, 0, 0)
  | n + 1 => if hasB s n = true then (true, if (extS st s n).1 = true then (if (extS st s n).2.1 ≤ st (38 + n) then (extS st s n).2.1 else st (38 + n)) else st (38 + n), if (extS st s n).1 = true then (if st (38 + n) ≤ (extS st s n).2.2 then (extS st s n).2.2 else st (38 + n)) else st (38 + n)) else extS st s n
def byW (rule m lo hi came : Int32) : Int32 := (fun b => if came ≤ b then b else came) (if rule = 0 then hi else if rule = 1 then hi + m else if rule = 2 then lo + m else came)
def meW (t r : Int32) : Int32 := if 0 ≤ t - mendS r then t - mendS r else 0
def byS (st : Nat → Int32) (e : Bool × Int32 × Int32) (w : Nat) : Int32 := byW (st 10) (st 11) e.2.1 e.2.2 (st (38 + w))
def leaveP (n i : Nat) (st : Nat → Int32) (s : Int32) : Nat → Int32 := fun k =>
  if 32 ≤ k ∧ k < 32 + i ∧ hasB s (k - 32) = true then meW (st k) (byS st (extS st s n) (k - 32) - st (38 + (k - 32)))
  else if 38 ≤ k ∧ k < 38 + i ∧ hasB s (k - 38) = true then byS st (extS st s n) (k - 38)
  else if 44 ≤ k ∧ k < 44 + i ∧ hasB s (k - 44) = true then st k + (byS st (extS st s n) (k - 44) - st (38 + (k - 44))) else st k
theorem leaveP_0 {n : Nat} {st : Nat → Int32} {s : Int32} : leaveP n 0 st s = st := by
  funext k
  unfold leaveP
  rw [if_neg (by omega), if_neg (by omega), if_neg (by omega)]
theorem leaveP_lo {n i k : Nat} {st : Nat → Int32} {s : Int32} (h : k < 32) : leaveP n i st s k = st k := by
  unfold leaveP
  rw [if_neg (by omega), if_neg (by omega), if_neg (by omega)]
theorem leaveP_hi {n i k : Nat} {st : Nat → Int32} {s : Int32} (h : 50 ≤ k) (hi : i ≤ 6) : leaveP n i st s k = st k := by
  unfold leaveP
  rw [if_neg (by omega), if_neg (by omega), if_neg (by omega)]
theorem leaveP_i {n i : Nat} {st : Nat → Int32} {s : Int32} (hi : i < 6) : leaveP n i st s (32 + i) = st (32 + i) ∧ leaveP n i st s (38 + i) = st (38 + i) ∧ leaveP n i st s (44 + i) = st (44 + i) := by
  unfold leaveP
  refine ⟨?_, ?_, ?_⟩
  · rw [if_neg (by omega), if_neg (by omega), if_neg (by omega)]
  · rw [if_neg (by omega), if_neg (by omega), if_neg (by omega)]
  · rw [if_neg (by omega), if_neg (by omega), if_neg (by omega)]
theorem leaveP_no {n i : Nat} {st : Nat → Int32} {s : Int32} (hi : i < 6) (h : hasB s i = false) : leaveP n (i + 1) st s = leaveP n i st s := by
  funext k
  unfold leaveP
  by_cases h1 : k = 32 + i
  · subst h1
    rw [Nat.add_sub_cancel_left, h]
    simp [show ¬ 38 ≤ 32 + i by omega, show ¬ 44 ≤ 32 + i by omega]
  · by_cases h2 : k = 38 + i
    · subst h2
      rw [Nat.add_sub_cancel_left, h]
      simp [show ¬ 38 + i < 32 + (i + 1) by omega, show ¬ 38 + i < 32 + i by omega, show ¬ 44 ≤ 38 + i by omega]
    · by_cases h3 : k = 44 + i
      · subst h3
        rw [Nat.add_sub_cancel_left, h]
        simp [show ¬ 44 + i < 32 + (i + 1) by omega, show ¬ 44 + i < 32 + i by omega, show ¬ 44 + i < 38 + (i + 1) by omega, show ¬ 44 + i < 38 + i by omega]
      · have a1 : (k < 32 + (i + 1)) = (k < 32 + i) := by apply propext; omega
        have a2 : (k < 38 + (i + 1)) = (k < 38 + i) := by apply propext; omega
        have a3 : (k < 44 + (i + 1)) = (k < 44 + i) := by apply propext; omega
        simp only [a1, a2, a3]
theorem leaveP_st {n i : Nat} {st : Nat → Int32} {s : Int32} (hi : i < 6) (h : hasB s i = true) : upd (upd (upd (leaveP n i st s) (32 + i) (meW (st (32 + i)) (byS st (extS st s n) i - st (38 + i)))) (44 + i) (st (44 + i) + (byS st (extS st s n) i - st (38 + i)))) (38 + i) (byS st (extS st s n) i) = leaveP n (i + 1) st s := by
  funext k
  unfold upd
  by_cases h2 : k = 38 + i
  · rw [if_pos h2]
    unfold leaveP
    rw [if_neg (by omega), if_pos ⟨by omega, by omega, by rw [h2, Nat.add_sub_cancel_left]; exact h⟩, h2, Nat.add_sub_cancel_left]
  · rw [if_neg h2]
    by_cases h3 : k = 44 + i
    · rw [if_pos h3]
      unfold leaveP
      rw [if_neg (by omega), if_neg (by omega), if_pos ⟨by omega, by omega, by rw [h3, Nat.add_sub_cancel_left]; exact h⟩, h3, Nat.add_sub_cancel_left]
    · rw [if_neg h3]
      by_cases h1 : k = 32 + i
      · rw [if_pos h1]
        unfold leaveP
        rw [if_pos ⟨by omega, by omega, by rw [h1, Nat.add_sub_cancel_left]; exact h⟩, h1, Nat.add_sub_cancel_left]
      · rw [if_neg h1]
        unfold leaveP
        have a1 : (k < 32 + (i + 1)) = (k < 32 + i) := by apply propext; omega
        have a2 : (k < 38 + (i + 1)) = (k < 38 + i) := by apply propext; omega
        have a3 : (k < 44 + (i + 1)) = (k < 44 + i) := by apply propext; omega
        simp only [a1, a2, a3]
set_option maxRecDepth 100000 in
set_option maxHeartbeats 4000000 in
theorem l_leave1 {X : XT} {G : GG} {kn : Nat} {Q : State → Prop} {f : MM} {n : Nat} (C : Cx X G mX9_leave 2 0 0 (NN kn)) (hn : n ≤ 6) (h13 : f 89 13 = nI n) (K : Vw X G mX9_leave.2.2.2.1 0 0 Q (NN kn) (shF kn) f 87 [some (.ref (G.1 + 85)), some (.int (extS (f 89) (f 85 16) n).2.1), some (.int (extS (f 89) (f 85 16) n).2.2), some (.int (b1 (extS (f 89) (f 85 16) n).1)), some (.int (nI n)), none, none, none] []) : ∀ (m i : Nat), i + m = n → Vw X G mX9_leave.2.2.2.1 0 0 Q (NN kn) (shF kn) f 9 [some (.ref (G.1 + 85)), some (.int (extS (f 89) (f 85 16) i).2.1), some (.int (extS (f 89) (f 85 16) i).2.2), some (.int (b1 (extS (f 89) (f 85 16) i).1)), some (.int (nI i)), none, none, none] [] := by
  intro m
  induction m with
  | zero =>
    intro i hm
    obtain rfl : n = i := by omega
    refine r_iload (pc := 9) C dX9_leave_9 rfl ?_
    refine r_aload_n (pc := 11) C dX9_leave_11 rfl ?_
    refine r_getr (pc := 12) C fX9_19 dX9_leave_12 (s_85 _) rfl rfl ?_
    refine r_bipush (pc := 15) C (13) dX9_leave_15 (by decide) ?_
    refine q_iald (pc := 17) C 13 dX9_leave_17 (s_89 _) (sn_89 _) rfl (by omega) (by decide) ?_
    refine q_ge (pc := 18) C n n 87 rfl h13 (by omega) (by omega) dX9_leave_18 (by decide) (fun c18 => ?_) (fun c18 => ?_)
    · exact K
    · exact absurd c18 (by omega)
  | succ m ih =>
    intro i hm
    have es : extS (f 89) (f 85 16) (i + 1) = if hasB (f 85 16) i = true then (true, if (extS (f 89) (f 85 16) i).1 = true then (if (extS (f 89) (f 85 16) i).2.1 ≤ f 89 (38 + i) then (extS (f 89) (f 85 16) i).2.1 else f 89 (38 + i)) else f 89 (38 + i), if (extS (f 89) (f 85 16) i).1 = true then (if f 89 (38 + i) ≤ (extS (f 89) (f 85 16) i).2.2 then (extS (f 89) (f 85 16) i).2.2 else f 89 (38 + i)) else f 89 (38 + i)) else extS (f 89) (f 85 16) i := rfl
    refine r_iload (pc := 9) C dX9_leave_9 rfl ?_
    refine r_aload_n (pc := 11) C dX9_leave_11 rfl ?_
    refine r_getr (pc := 12) C fX9_19 dX9_leave_12 (s_85 _) rfl rfl ?_
    refine r_bipush (pc := 15) C (13) dX9_leave_15 (by decide) ?_
    refine q_iald (pc := 17) C 13 dX9_leave_17 (s_89 _) (sn_89 _) rfl (by omega) (by decide) ?_
    refine q_ge (pc := 18) C i n 87 rfl h13 (by omega) (by omega) dX9_leave_18 (by decide) (fun c18 => ?_) (fun c18 => ?_)
    · exact absurd c18 (by omega)
    · refine r_aload_n (pc := 21) C dX9_leave_21 rfl ?_
      refine r_get (pc := 22) C fX9_161 dX9_leave_22 (s_85 _) rfl ?_
      refine r_iload (pc := 25) C dX9_leave_25 rfl ?_
      refine q_sIf (pc := 27) C kX9_164 dX9_leave_27 (c_X9_has rfl) rfl rfl (Nat.le_of_ble_eq_true rfl) (by decide) ⟨by decide, by decide⟩ ?_
      refine r_if_eq (pc := 30) C 81 dX9_leave_30 (by decide) (fun c30 => ?_) (fun c30 => ?_)
      · replace c30 := b1_0 c30
        refine r_iinc (pc := 81) C (nI (i + 1)) dX9_leave_81 rfl (nI_inc _) (by decide) rfl ?_
        refine r_goto (pc := 84) C 9 dX9_leave_84 (by decide) ?_
        have h := ih (i + 1) (by omega)
        rw [es] at h
        simp only [c30, if_true, if_false, Bool.false_eq_true, b1] at h
        exact v_drop _ (by repeat (first | exact trivial | exact rfl | constructor)) h
      · replace c30 := b1_1 c30
        refine r_aload_n (pc := 33) C dX9_leave_33 rfl ?_
        refine r_getr (pc := 34) C fX9_19 dX9_leave_34 (s_85 _) rfl rfl ?_
        refine r_bipush (pc := 37) C (38) dX9_leave_37 (by decide) ?_
        refine r_iload (pc := 39) C dX9_leave_39 rfl ?_
        refine r_iadd (pc := 41) C dX9_leave_41 ?_
        refine q_iald (pc := 42) C (38 + i) dX9_leave_42 (s_89 _) (sn_89 _) (nI_add 38 i) (by omega) (by decide) ?_
        refine r_istore (pc := 43) C dX9_leave_43 (by decide) rfl ?_
        refine r_iload_n (pc := 45) C dX9_leave_45 rfl ?_
        refine r_if_eq (pc := 46) C 55 dX9_leave_46 (by decide) (fun c46 => ?_) (fun c46 => ?_)
        · replace c46 := b1_0 c46
          refine r_iload (pc := 55) C dX9_leave_55 rfl ?_
          refine r_goto (pc := 57) C 61 dX9_leave_57 (by decide) ?_
          refine r_istore_n (pc := 61) C dX9_leave_61 (by decide) rfl ?_
          refine r_iload_n (pc := 62) C dX9_leave_62 rfl ?_
          refine r_if_eq (pc := 63) C 72 dX9_leave_63 (by decide) (fun c63 => ?_) (fun c63 => ?_)
          · replace c63 := b1_0 c63
            refine r_iload (pc := 72) C dX9_leave_72 rfl ?_
            refine r_goto (pc := 74) C 78 dX9_leave_74 (by decide) ?_
            refine r_istore_n (pc := 78) C dX9_leave_78 (by decide) rfl ?_
            refine r_iconst (pc := 79) C (1) dX9_leave_79 (by decide) ?_
            refine r_istore_n (pc := 80) C dX9_leave_80 (by decide) rfl ?_
            refine r_iinc (pc := 81) C (nI (i + 1)) dX9_leave_81 rfl (nI_inc _) (by decide) rfl ?_
            refine r_goto (pc := 84) C 9 dX9_leave_84 (by decide) ?_
            have h := ih (i + 1) (by omega)
            rw [es] at h
            simp only [c30, c46, c63, if_true, if_false, Bool.false_eq_true, b1] at h
            exact v_drop _ (by repeat (first | exact trivial | exact rfl | constructor)) h
          · replace c63 := b1_1 c63
            rw [c46] at c63; exact absurd c63 (by decide)
        · replace c46 := b1_1 c46
          refine r_iload (pc := 49) C dX9_leave_49 rfl ?_
          refine r_iload_n (pc := 51) C dX9_leave_51 rfl ?_
          refine r_icmp_ge (pc := 52) C 60 dX9_leave_52 (by decide) (fun c52 => ?_) (fun c52 => ?_)
          · refine r_iload_n (pc := 60) C dX9_leave_60 rfl ?_
            refine r_istore_n (pc := 61) C dX9_leave_61 (by decide) rfl ?_
            refine r_iload_n (pc := 62) C dX9_leave_62 rfl ?_
            refine r_if_eq (pc := 63) C 72 dX9_leave_63 (by decide) (fun c63 => ?_) (fun c63 => ?_)
            · replace c63 := b1_0 c63
              rw [c46] at c63; exact absurd c63 (by decide)
            · replace c63 := b1_1 c63
              refine r_iload (pc := 66) C dX9_leave_66 rfl ?_
              refine r_iload_n (pc := 68) C dX9_leave_68 rfl ?_
              refine r_icmp_le (pc := 69) C 77 dX9_leave_69 (by decide) (fun c69 => ?_) (fun c69 => ?_)
              · refine r_iload_n (pc := 77) C dX9_leave_77 rfl ?_
                refine r_istore_n (pc := 78) C dX9_leave_78 (by decide) rfl ?_
                refine r_iconst (pc := 79) C (1) dX9_leave_79 (by decide) ?_
                refine r_istore_n (pc := 80) C dX9_leave_80 (by decide) rfl ?_
                refine r_iinc (pc := 81) C (nI (i + 1)) dX9_leave_81 rfl (nI_inc _) (by decide) rfl ?_
                refine r_goto (pc := 84) C 9 dX9_leave_84 (by decide) ?_
                have h := ih (i + 1) (by omega)
                rw [es] at h
                simp only [c30, c46, c52, c63, c69, if_true, if_false, Bool.false_eq_true, b1] at h
                exact v_drop _ (by repeat (first | exact trivial | exact rfl | constructor)) h
              · refine r_iload (pc := 72) C dX9_leave_72 rfl ?_
                refine r_goto (pc := 74) C 78 dX9_leave_74 (by decide) ?_
                refine r_istore_n (pc := 78) C dX9_leave_78 (by decide) rfl ?_
                refine r_iconst (pc := 79) C (1) dX9_leave_79 (by decide) ?_
                refine r_istore_n (pc := 80) C dX9_leave_80 (by decide) rfl ?_
                refine r_iinc (pc := 81) C (nI (i + 1)) dX9_leave_81 rfl (nI_inc _) (by decide) rfl ?_
                refine r_goto (pc := 84) C 9 dX9_leave_84 (by decide) ?_
                have h := ih (i + 1) (by omega)
                rw [es] at h
                simp only [c30, c46, c52, c63, c69, if_true, if_false, Bool.false_eq_true, b1] at h
                exact v_drop _ (by repeat (first | exact trivial | exact rfl | constructor)) h
          · refine r_iload (pc := 55) C dX9_leave_55 rfl ?_
            refine r_goto (pc := 57) C 61 dX9_leave_57 (by decide) ?_
            refine r_istore_n (pc := 61) C dX9_leave_61 (by decide) rfl ?_
            refine r_iload_n (pc := 62) C dX9_leave_62 rfl ?_
            refine r_if_eq (pc := 63) C 72 dX9_leave_63 (by decide) (fun c63 => ?_) (fun c63 => ?_)
            · replace c63 := b1_0 c63
              rw [c46] at c63; exact absurd c63 (by decide)
            · replace c63 := b1_1 c63
              refine r_iload (pc := 66) C dX9_leave_66 rfl ?_
              refine r_iload_n (pc := 68) C dX9_leave_68 rfl ?_
              refine r_icmp_le (pc := 69) C 77 dX9_leave_69 (by decide) (fun c69 => ?_) (fun c69 => ?_)
              · refine r_iload_n (pc := 77) C dX9_leave_77 rfl ?_
                refine r_istore_n (pc := 78) C dX9_leave_78 (by decide) rfl ?_
                refine r_iconst (pc := 79) C (1) dX9_leave_79 (by decide) ?_
                refine r_istore_n (pc := 80) C dX9_leave_80 (by decide) rfl ?_
                refine r_iinc (pc := 81) C (nI (i + 1)) dX9_leave_81 rfl (nI_inc _) (by decide) rfl ?_
                refine r_goto (pc := 84) C 9 dX9_leave_84 (by decide) ?_
                have h := ih (i + 1) (by omega)
                rw [es] at h
                simp only [c30, c46, c52, c63, c69, if_true, if_false, Bool.false_eq_true, b1] at h
                exact v_drop _ (by repeat (first | exact trivial | exact rfl | constructor)) h
              · refine r_iload (pc := 72) C dX9_leave_72 rfl ?_
                refine r_goto (pc := 74) C 78 dX9_leave_74 (by decide) ?_
                refine r_istore_n (pc := 78) C dX9_leave_78 (by decide) rfl ?_
                refine r_iconst (pc := 79) C (1) dX9_leave_79 (by decide) ?_
                refine r_istore_n (pc := 80) C dX9_leave_80 (by decide) rfl ?_
                refine r_iinc (pc := 81) C (nI (i + 1)) dX9_leave_81 rfl (nI_inc _) (by decide) rfl ?_
                refine r_goto (pc := 84) C 9 dX9_leave_84 (by decide) ?_
                have h := ih (i + 1) (by omega)
                rw [es] at h
                simp only [c30, c46, c52, c63, c69, if_true, if_false, Bool.false_eq_true, b1] at h
                exact v_drop _ (by repeat (first | exact trivial | exact rfl | constructor)) h
set_option maxRecDepth 100000 in
set_option maxHeartbeats 4000000 in
theorem l_leave2 {X : XT} {G : GG} {kn : Nat} {Q : State → Prop} {f : MM} {n : Nat} (C : Cx X G mX9_leave 2 0 0 (NN kn)) (hn : n ≤ 6) (h13 : f 89 13 = nI n) (K : Vw X G mX9_leave.2.2.2.1 0 0 Q (NN kn) (shF kn) (va_up f 89 (leaveP n n (f 89) (f 85 16))) 284 [some (.ref (G.1 + 85)), some (.int (extS (f 89) (f 85 16) n).2.1), some (.int (extS (f 89) (f 85 16) n).2.2), none, some (.int (nI n)), none, none, none] []) : ∀ (m i : Nat), i + m = n → Vw X G mX9_leave.2.2.2.1 0 0 Q (NN kn) (shF kn) (va_up f 89 (leaveP n i (f 89) (f 85 16))) 90 [some (.ref (G.1 + 85)), some (.int (extS (f 89) (f 85 16) n).2.1), some (.int (extS (f 89) (f 85 16) n).2.2), none, some (.int (nI i)), none, none, none] [] := by
  intro m
  induction m with
  | zero =>
    intro i hm
    obtain rfl : n = i := by omega
    refine r_iload (pc := 90) C dX9_leave_90 rfl ?_
    refine r_aload_n (pc := 92) C dX9_leave_92 rfl ?_
    refine r_getr (pc := 93) C fX9_19 dX9_leave_93 (s_85 _) rfl rfl ?_
    refine r_bipush (pc := 96) C (13) dX9_leave_96 (by decide) ?_
    refine q_iald (pc := 98) C 13 dX9_leave_98 (s_89 _) (sn_89 _) rfl (by omega) (by decide) ?_
    refine q_ge (pc := 99) C n n 284 rfl (by rw [up_at, leaveP_lo (by decide)]; exact h13) (by omega) (by omega) dX9_leave_99 (by decide) (fun c99 => ?_) (fun c99 => ?_)
    · exact K
    · exact absurd c99 (by omega)
  | succ m ih =>
    intro i hm
    obtain ⟨q1, q2, q3⟩ := leaveP_i (n := n) (i := i) (st := f 89) (s := f 85 16) (by omega)
    have J : hasB (f 85 16) i = true → Vw X G mX9_leave.2.2.2.1 0 0 Q (NN kn) (shF kn) (va_up f 89 (leaveP n i (f 89) (f 85 16))) 206 [some (.ref (G.1 + 85)), some (.int (extS (f 89) (f 85 16) n).2.1), some (.int (extS (f 89) (f 85 16) n).2.2), none, some (.int (nI i)), some (.int (f 89 (38 + i))), some (.int (byS (f 89) (extS (f 89) (f 85 16) n) i)), none] [] := by
      intro hh
      refine r_aload_n (pc := 206) C dX9_leave_206 rfl ?_
      refine r_getr (pc := 207) C fX9_19 dX9_leave_207 (s_85 _) rfl rfl ?_
      refine r_bipush (pc := 210) C (32) dX9_leave_210 (by decide) ?_
      refine r_iload (pc := 212) C dX9_leave_212 rfl ?_
      refine r_iadd (pc := 214) C dX9_leave_214 ?_
      refine q_iald (pc := 215) C (32 + i) dX9_leave_215 (s_89 _) (sn_89 _) (nI_add 32 i) (by omega) (by decide) ?_
      refine q_val (f 89 (32 + i)) q1 ?_
      refine r_iload (pc := 216) C dX9_leave_216 rfl ?_
      refine r_iload (pc := 218) C dX9_leave_218 rfl ?_
      refine r_isub (pc := 220) C dX9_leave_220 ?_
      refine q_sIf (pc := 221) C kX9_173 dX9_leave_221 (c_X9_mendBy) rfl rfl (Nat.le_of_ble_eq_true rfl) (by decide) ⟨by decide, by decide⟩ ?_
      refine r_isub (pc := 224) C dX9_leave_224 ?_
      refine r_istore (pc := 225) C dX9_leave_225 (by decide) rfl ?_
      refine r_aload_n (pc := 227) C dX9_leave_227 rfl ?_
      refine r_getr (pc := 228) C fX9_19 dX9_leave_228 (s_85 _) rfl rfl ?_
      refine r_bipush (pc := 231) C (32) dX9_leave_231 (by decide) ?_
      refine r_iload (pc := 233) C dX9_leave_233 rfl ?_
      refine r_iadd (pc := 235) C dX9_leave_235 ?_
      refine r_iload (pc := 236) C dX9_leave_236 rfl ?_
      refine r_if_ge (pc := 238) C 245 dX9_leave_238 (by decide) (fun c238 => ?_) (fun c238 => ?_)
      · refine r_iload (pc := 245) C dX9_leave_245 rfl ?_
        refine q_val (meW (f 89 (32 + i)) ((byS (f 89) (extS (f 89) (f 85 16) n) i) - f 89 (38 + i))) (by simp only [meW]; first | rw [if_pos c238] | rw [if_neg c238]) ?_
        refine q_iast (pc := 247) C (32 + i) dX9_leave_247 (s_89 _) (sn_89 _) (nI_add 32 i) (by omega) (by decide) ?_
        refine r_aload_n (pc := 248) C dX9_leave_248 rfl ?_
        refine r_getr (pc := 249) C fX9_19 dX9_leave_249 (s_85 _) rfl rfl ?_
        refine r_bipush (pc := 252) C (44) dX9_leave_252 (by decide) ?_
        refine r_iload (pc := 254) C dX9_leave_254 rfl ?_
        refine r_iadd (pc := 256) C dX9_leave_256 ?_
        refine r_dup2 (pc := 257) C dX9_leave_257 rfl rfl ?_
        refine q_iald (pc := 258) C (44 + i) dX9_leave_258 (s_89 _) (sn_89 _) (nI_add 44 i) (by omega) (by decide) ?_
        refine q_val (f 89 (44 + i)) (by rw [u2_va, up_at]; simp only [upd]; rw [if_neg (by omega)]; exact q3) ?_
        refine r_iload (pc := 259) C dX9_leave_259 rfl ?_
        refine r_iload (pc := 261) C dX9_leave_261 rfl ?_
        refine r_isub (pc := 263) C dX9_leave_263 ?_
        refine r_iadd (pc := 264) C dX9_leave_264 ?_
        refine q_iast (pc := 265) C (44 + i) dX9_leave_265 (s_89 _) (sn_89 _) (nI_add 44 i) (by omega) (by decide) ?_
        refine r_aload_n (pc := 266) C dX9_leave_266 rfl ?_
        refine r_getr (pc := 267) C fX9_19 dX9_leave_267 (s_85 _) rfl rfl ?_
        refine r_bipush (pc := 270) C (38) dX9_leave_270 (by decide) ?_
        refine r_iload (pc := 272) C dX9_leave_272 rfl ?_
        refine r_iadd (pc := 274) C dX9_leave_274 ?_
        refine r_iload (pc := 275) C dX9_leave_275 rfl ?_
        refine q_iast (pc := 277) C (38 + i) dX9_leave_277 (s_89 _) (sn_89 _) (nI_add 38 i) (by omega) (by decide) ?_
        refine r_iinc (pc := 278) C (nI (i + 1)) dX9_leave_278 rfl (nI_inc _) (by decide) rfl ?_
        refine r_goto (pc := 281) C 90 dX9_leave_281 (by decide) ?_
        refine q_f (f' := (va_up f 89 (leaveP n (i + 1) (f 89) (f 85 16)))) (by rw [u2_va, u2_va, u2_va, leaveP_st (by omega) hh]) ?_
        exact v_drop _ (by repeat (first | exact trivial | exact rfl | constructor)) (ih (i + 1) (by omega))
      · refine r_iconst (pc := 241) C (0) dX9_leave_241 (by decide) ?_
        refine r_goto (pc := 242) C 247 dX9_leave_242 (by decide) ?_
        refine q_val (meW (f 89 (32 + i)) ((byS (f 89) (extS (f 89) (f 85 16) n) i) - f 89 (38 + i))) (by simp only [meW]; first | rw [if_pos c238] | rw [if_neg c238]) ?_
        refine q_iast (pc := 247) C (32 + i) dX9_leave_247 (s_89 _) (sn_89 _) (nI_add 32 i) (by omega) (by decide) ?_
        refine r_aload_n (pc := 248) C dX9_leave_248 rfl ?_
        refine r_getr (pc := 249) C fX9_19 dX9_leave_249 (s_85 _) rfl rfl ?_
        refine r_bipush (pc := 252) C (44) dX9_leave_252 (by decide) ?_
        refine r_iload (pc := 254) C dX9_leave_254 rfl ?_
        refine r_iadd (pc := 256) C dX9_leave_256 ?_
        refine r_dup2 (pc := 257) C dX9_leave_257 rfl rfl ?_
        refine q_iald (pc := 258) C (44 + i) dX9_leave_258 (s_89 _) (sn_89 _) (nI_add 44 i) (by omega) (by decide) ?_
        refine q_val (f 89 (44 + i)) (by rw [u2_va, up_at]; simp only [upd]; rw [if_neg (by omega)]; exact q3) ?_
        refine r_iload (pc := 259) C dX9_leave_259 rfl ?_
        refine r_iload (pc := 261) C dX9_leave_261 rfl ?_
        refine r_isub (pc := 263) C dX9_leave_263 ?_
        refine r_iadd (pc := 264) C dX9_leave_264 ?_
        refine q_iast (pc := 265) C (44 + i) dX9_leave_265 (s_89 _) (sn_89 _) (nI_add 44 i) (by omega) (by decide) ?_
        refine r_aload_n (pc := 266) C dX9_leave_266 rfl ?_
        refine r_getr (pc := 267) C fX9_19 dX9_leave_267 (s_85 _) rfl rfl ?_
        refine r_bipush (pc := 270) C (38) dX9_leave_270 (by decide) ?_
        refine r_iload (pc := 272) C dX9_leave_272 rfl ?_
        refine r_iadd (pc := 274) C dX9_leave_274 ?_
        refine r_iload (pc := 275) C dX9_leave_275 rfl ?_
        refine q_iast (pc := 277) C (38 + i) dX9_leave_277 (s_89 _) (sn_89 _) (nI_add 38 i) (by omega) (by decide) ?_
        refine r_iinc (pc := 278) C (nI (i + 1)) dX9_leave_278 rfl (nI_inc _) (by decide) rfl ?_
        refine r_goto (pc := 281) C 90 dX9_leave_281 (by decide) ?_
        refine q_f (f' := (va_up f 89 (leaveP n (i + 1) (f 89) (f 85 16)))) (by rw [u2_va, u2_va, u2_va, leaveP_st (by omega) hh]) ?_
        exact v_drop _ (by repeat (first | exact trivial | exact rfl | constructor)) (ih (i + 1) (by omega))
    refine r_iload (pc := 90) C dX9_leave_90 rfl ?_
    refine r_aload_n (pc := 92) C dX9_leave_92 rfl ?_
    refine r_getr (pc := 93) C fX9_19 dX9_leave_93 (s_85 _) rfl rfl ?_
    refine r_bipush (pc := 96) C (13) dX9_leave_96 (by decide) ?_
    refine q_iald (pc := 98) C 13 dX9_leave_98 (s_89 _) (sn_89 _) rfl (by omega) (by decide) ?_
    refine q_ge (pc := 99) C i n 284 rfl (by rw [up_at, leaveP_lo (by decide)]; exact h13) (by omega) (by omega) dX9_leave_99 (by decide) (fun c99 => ?_) (fun c99 => ?_)
    · exact absurd c99 (by omega)
    · refine r_aload_n (pc := 102) C dX9_leave_102 rfl ?_
      refine r_get (pc := 103) C fX9_161 dX9_leave_103 (s_85 _) rfl ?_
      refine q_val (f 85 16) rfl ?_
      refine r_iload (pc := 106) C dX9_leave_106 rfl ?_
      refine q_sIf (pc := 108) C kX9_164 dX9_leave_108 (c_X9_has rfl) rfl rfl (Nat.le_of_ble_eq_true rfl) (by decide) ⟨by decide, by decide⟩ ?_
      refine r_if_eq (pc := 111) C 278 dX9_leave_111 (by decide) (fun c111 => ?_) (fun c111 => ?_)
      · replace c111 := b1_0 c111
        refine r_iinc (pc := 278) C (nI (i + 1)) dX9_leave_278 rfl (nI_inc _) (by decide) rfl ?_
        refine r_goto (pc := 281) C 90 dX9_leave_281 (by decide) ?_
        refine q_f (f' := (va_up f 89 (leaveP n (i + 1) (f 89) (f 85 16)))) (by rw [leaveP_no (by omega) c111]) ?_
        exact v_drop _ (by repeat (first | exact trivial | exact rfl | constructor)) (ih (i + 1) (by omega))
      · replace c111 := b1_1 c111
        refine r_aload_n (pc := 114) C dX9_leave_114 rfl ?_
        refine r_getr (pc := 115) C fX9_19 dX9_leave_115 (s_85 _) rfl rfl ?_
        refine r_bipush (pc := 118) C (38) dX9_leave_118 (by decide) ?_
        refine r_iload (pc := 120) C dX9_leave_120 rfl ?_
        refine r_iadd (pc := 122) C dX9_leave_122 ?_
        refine q_iald (pc := 123) C (38 + i) dX9_leave_123 (s_89 _) (sn_89 _) (nI_add 38 i) (by omega) (by decide) ?_
        refine q_val (f 89 (38 + i)) q2 ?_
        refine r_istore (pc := 124) C dX9_leave_124 (by decide) rfl ?_
        refine r_aload_n (pc := 126) C dX9_leave_126 rfl ?_
        refine r_getr (pc := 127) C fX9_19 dX9_leave_127 (s_85 _) rfl rfl ?_
        refine r_bipush (pc := 130) C (10) dX9_leave_130 (by decide) ?_
        refine q_iald (pc := 132) C 10 dX9_leave_132 (s_89 _) (sn_89 _) rfl (by omega) (by decide) ?_
        refine q_val (f 89 10) (by rw [up_at, leaveP_lo (by decide)]) ?_
        refine r_if_ne (pc := 133) C 140 dX9_leave_133 (by decide) (fun c133 => ?_) (fun c133 => ?_)
        · refine r_aload_n (pc := 140) C dX9_leave_140 rfl ?_
          refine r_getr (pc := 141) C fX9_19 dX9_leave_141 (s_85 _) rfl rfl ?_
          refine r_bipush (pc := 144) C (10) dX9_leave_144 (by decide) ?_
          refine q_iald (pc := 146) C 10 dX9_leave_146 (s_89 _) (sn_89 _) rfl (by omega) (by decide) ?_
          refine q_val (f 89 10) (by rw [up_at, leaveP_lo (by decide)]) ?_
          refine r_iconst (pc := 147) C (1) dX9_leave_147 (by decide) ?_
          refine r_icmp_ne (pc := 148) C 163 dX9_leave_148 (by decide) (fun c148 => ?_) (fun c148 => ?_)
          · refine r_aload_n (pc := 163) C dX9_leave_163 rfl ?_
            refine r_getr (pc := 164) C fX9_19 dX9_leave_164 (s_85 _) rfl rfl ?_
            refine r_bipush (pc := 167) C (10) dX9_leave_167 (by decide) ?_
            refine q_iald (pc := 169) C 10 dX9_leave_169 (s_89 _) (sn_89 _) rfl (by omega) (by decide) ?_
            refine q_val (f 89 10) (by rw [up_at, leaveP_lo (by decide)]) ?_
            refine r_iconst (pc := 170) C (2) dX9_leave_170 (by decide) ?_
            refine r_icmp_ne (pc := 171) C 186 dX9_leave_171 (by decide) (fun c171 => ?_) (fun c171 => ?_)
            · refine r_iload (pc := 186) C dX9_leave_186 rfl ?_
              refine r_istore (pc := 188) C dX9_leave_188 (by decide) rfl ?_
              refine r_iload (pc := 190) C dX9_leave_190 rfl ?_
              refine r_iload (pc := 192) C dX9_leave_192 rfl ?_
              refine r_icmp_ge (pc := 194) C 202 dX9_leave_194 (by decide) (fun c194 => ?_) (fun c194 => ?_)
              · refine r_iload (pc := 202) C dX9_leave_202 rfl ?_
                refine q_val (byS (f 89) (extS (f 89) (f 85 16) n) i) (by simp [byS, byW, c133, c148, c171, c194]) ?_
                refine r_istore (pc := 204) C dX9_leave_204 (by decide) rfl ?_
                exact v_drop _ (by repeat (first | exact trivial | exact rfl | constructor)) (J c111)
              · refine r_iload (pc := 197) C dX9_leave_197 rfl ?_
                refine r_goto (pc := 199) C 204 dX9_leave_199 (by decide) ?_
                refine q_val (byS (f 89) (extS (f 89) (f 85 16) n) i) (by simp [byS, byW, c133, c148, c171, c194]) ?_
                refine r_istore (pc := 204) C dX9_leave_204 (by decide) rfl ?_
                exact v_drop _ (by repeat (first | exact trivial | exact rfl | constructor)) (J c111)
            · refine r_iload_n (pc := 174) C dX9_leave_174 rfl ?_
              refine r_aload_n (pc := 175) C dX9_leave_175 rfl ?_
              refine r_getr (pc := 176) C fX9_19 dX9_leave_176 (s_85 _) rfl rfl ?_
              refine r_bipush (pc := 179) C (11) dX9_leave_179 (by decide) ?_
              refine q_iald (pc := 181) C 11 dX9_leave_181 (s_89 _) (sn_89 _) rfl (by omega) (by decide) ?_
              refine q_val (f 89 11) (by rw [up_at, leaveP_lo (by decide)]) ?_
              refine r_iadd (pc := 182) C dX9_leave_182 ?_
              refine r_goto (pc := 183) C 188 dX9_leave_183 (by decide) ?_
              refine r_istore (pc := 188) C dX9_leave_188 (by decide) rfl ?_
              refine r_iload (pc := 190) C dX9_leave_190 rfl ?_
              refine r_iload (pc := 192) C dX9_leave_192 rfl ?_
              refine r_icmp_ge (pc := 194) C 202 dX9_leave_194 (by decide) (fun c194 => ?_) (fun c194 => ?_)
              · refine r_iload (pc := 202) C dX9_leave_202 rfl ?_
                refine q_val (byS (f 89) (extS (f 89) (f 85 16) n) i) (by simp [byS, byW, c133, c148, c171, c194]) ?_
                refine r_istore (pc := 204) C dX9_leave_204 (by decide) rfl ?_
                exact v_drop _ (by repeat (first | exact trivial | exact rfl | constructor)) (J c111)
              · refine r_iload (pc := 197) C dX9_leave_197 rfl ?_
                refine r_goto (pc := 199) C 204 dX9_leave_199 (by decide) ?_
                refine q_val (byS (f 89) (extS (f 89) (f 85 16) n) i) (by simp [byS, byW, c133, c148, c171, c194]) ?_
                refine r_istore (pc := 204) C dX9_leave_204 (by decide) rfl ?_
                exact v_drop _ (by repeat (first | exact trivial | exact rfl | constructor)) (J c111)
          · refine r_iload_n (pc := 151) C dX9_leave_151 rfl ?_
            refine r_aload_n (pc := 152) C dX9_leave_152 rfl ?_
            refine r_getr (pc := 153) C fX9_19 dX9_leave_153 (s_85 _) rfl rfl ?_
            refine r_bipush (pc := 156) C (11) dX9_leave_156 (by decide) ?_
            refine q_iald (pc := 158) C 11 dX9_leave_158 (s_89 _) (sn_89 _) rfl (by omega) (by decide) ?_
            refine q_val (f 89 11) (by rw [up_at, leaveP_lo (by decide)]) ?_
            refine r_iadd (pc := 159) C dX9_leave_159 ?_
            refine r_goto (pc := 160) C 188 dX9_leave_160 (by decide) ?_
            refine r_istore (pc := 188) C dX9_leave_188 (by decide) rfl ?_
            refine r_iload (pc := 190) C dX9_leave_190 rfl ?_
            refine r_iload (pc := 192) C dX9_leave_192 rfl ?_
            refine r_icmp_ge (pc := 194) C 202 dX9_leave_194 (by decide) (fun c194 => ?_) (fun c194 => ?_)
            · refine r_iload (pc := 202) C dX9_leave_202 rfl ?_
              refine q_val (byS (f 89) (extS (f 89) (f 85 16) n) i) (by simp [byS, byW, c133, c148, c194]) ?_
              refine r_istore (pc := 204) C dX9_leave_204 (by decide) rfl ?_
              exact v_drop _ (by repeat (first | exact trivial | exact rfl | constructor)) (J c111)
            · refine r_iload (pc := 197) C dX9_leave_197 rfl ?_
              refine r_goto (pc := 199) C 204 dX9_leave_199 (by decide) ?_
              refine q_val (byS (f 89) (extS (f 89) (f 85 16) n) i) (by simp [byS, byW, c133, c148, c194]) ?_
              refine r_istore (pc := 204) C dX9_leave_204 (by decide) rfl ?_
              exact v_drop _ (by repeat (first | exact trivial | exact rfl | constructor)) (J c111)
        · refine r_iload_n (pc := 136) C dX9_leave_136 rfl ?_
          refine r_goto (pc := 137) C 188 dX9_leave_137 (by decide) ?_
          refine r_istore (pc := 188) C dX9_leave_188 (by decide) rfl ?_
          refine r_iload (pc := 190) C dX9_leave_190 rfl ?_
          refine r_iload (pc := 192) C dX9_leave_192 rfl ?_
          refine r_icmp_ge (pc := 194) C 202 dX9_leave_194 (by decide) (fun c194 => ?_) (fun c194 => ?_)
          · refine r_iload (pc := 202) C dX9_leave_202 rfl ?_
            refine q_val (byS (f 89) (extS (f 89) (f 85 16) n) i) (by simp [byS, byW, c133, c194]) ?_
            refine r_istore (pc := 204) C dX9_leave_204 (by decide) rfl ?_
            exact v_drop _ (by repeat (first | exact trivial | exact rfl | constructor)) (J c111)
          · refine r_iload (pc := 197) C dX9_leave_197 rfl ?_
            refine r_goto (pc := 199) C 204 dX9_leave_199 (by decide) ?_
            refine q_val (byS (f 89) (extS (f 89) (f 85 16) n) i) (by simp [byS, byW, c133, c194]) ?_
            refine r_istore (pc := 204) C dX9_leave_204 (by decide) rfl ?_
            exact v_drop _ (by repeat (first | exact trivial | exact rfl | constructor)) (J c111)
set_option maxRecDepth 100000 in
set_option maxHeartbeats 4000000 in
theorem c_X9_leave {G : GG} {kn : Nat} {f : MM} {n : Nat} (hn : n ≤ 6) (h13 : f 89 13 = nI n) : CV G mX9_leave 2 kn [.ref (G.1 + 85)] f (va_up f 89 (leaveP n n (f 89) (f 85 16))) := by
  refine Ct.of [some (.ref (G.1 + 85)), none, none, none, none, none, none, none] rfl (by decide +kernel) rfl (Nat.le_of_ble_eq_true rfl) rfl ?_
  intro X C
  refine r_iconst (pc := 0) C (0) dX9_leave_0 (by decide) ?_
  refine r_istore_n (pc := 1) C dX9_leave_1 (by decide) rfl ?_
  refine r_iconst (pc := 2) C (0) dX9_leave_2 (by decide) ?_
  refine r_istore_n (pc := 3) C dX9_leave_3 (by decide) rfl ?_
  refine r_iconst (pc := 4) C (0) dX9_leave_4 (by decide) ?_
  refine r_istore_n (pc := 5) C dX9_leave_5 (by decide) rfl ?_
  refine r_iconst (pc := 6) C (0) dX9_leave_6 (by decide) ?_
  refine r_istore (pc := 7) C dX9_leave_7 (by decide) rfl ?_
  refine l_leave1 C hn h13 ?_ n 0 (by omega)
  refine r_iconst (pc := 87) C (0) dX9_leave_87 (by decide) ?_
  refine r_istore (pc := 88) C dX9_leave_88 (by decide) rfl ?_
  refine q_f (f' := (va_up f 89 (leaveP n 0 (f 89) (f 85 16)))) (by rw [leaveP_0, up_id]) ?_
  refine v_drop _ (by repeat (first | exact trivial | exact rfl | constructor)) (l_leave2 C hn h13 ?_ n 0 (by omega))
  refine q_vret (pc := 284) C dX9_leave_284 rfl ?_
  rfl
/-- the next leg, and the gate behind it -/
def goS (n L g : Nat) (s : Int32) (st : Nat → Int32) : Nat → Int32 :=
  (fun s2 => if g + 1 < L then leaveP n n s2 s else s2) (upd (walkP n n st s g) 9 (nI (g + 1)))
theorem goS_lo {n L g k : Nat} {s : Int32} {st : Nat → Int32} (h : k < 32) (h9 : k ≠ 9) : goS n L g s st k = st k := by
  unfold goS
  dsimp only
  split
  · rw [leaveP_lo h]
    simp only [upd]
    rw [if_neg h9, walkP_lo h]
  · simp only [upd]
    rw [if_neg h9, walkP_lo h]
theorem goS_9 {n L g : Nat} {s : Int32} {st : Nat → Int32} : goS n L g s st 9 = nI (g + 1) := by
  unfold goS
  dsimp only
  split
  · rw [leaveP_lo (by decide)]; simp [upd]
  · simp [upd]
theorem goS_hi {n L g k : Nat} {s : Int32} {st : Nat → Int32} (h : 50 ≤ k) (hn : n ≤ 6) : goS n L g s st k = st k := by
  unfold goS
  dsimp only
  split
  · rw [leaveP_hi h hn]
    simp only [upd]
    rw [if_neg (by omega), walkP_hi (by omega) hn]
  · simp only [upd]
    rw [if_neg (by omega), walkP_hi (by omega) hn]
set_option maxRecDepth 100000 in
set_option maxHeartbeats 4000000 in
theorem c_X9_goOn {G : GG} {kn : Nat} {f : MM} {n L g : Nat} (hn : n ≤ 6) (hL : L ≤ 8) (hg : g < L) (h13 : f 89 13 = nI n) (h8 : f 89 8 = nI L) (h9 : f 89 9 = nI g) : CV G mX9_goOn 4 kn [.ref (G.1 + 85)] f (va_up f 89 (goS n L g (f 85 16) (f 89))) := by
  refine Ct.of [some (.ref (G.1 + 85))] rfl (by decide +kernel) rfl (Nat.le_of_ble_eq_true rfl) rfl ?_
  intro X C
  refine r_aload_n (pc := 0) C dX9_goOn_0 rfl ?_
  refine r_aload_n (pc := 1) C dX9_goOn_1 rfl ?_
  refine r_getr (pc := 2) C fX9_19 dX9_goOn_2 (s_85 _) rfl rfl ?_
  refine r_bipush (pc := 5) C (9) dX9_goOn_5 (by decide) ?_
  refine q_iald (pc := 7) C 9 dX9_goOn_7 (s_89 _) (sn_89 _) rfl (by omega) (by decide) ?_
  refine q_is g h9 ?_
  refine q_vVf (pc := 8) C kX9_176 dX9_goOn_8 (c_X9_walk hn (by omega) h13) (s_85 _) rfl rfl (Nat.le_of_ble_eq_true rfl) (by decide) ⟨by decide, by decide⟩ ?_
  refine r_aload_n (pc := 11) C dX9_goOn_11 rfl ?_
  refine r_getr (pc := 12) C fX9_19 dX9_goOn_12 (s_85 _) rfl rfl ?_
  refine r_bipush (pc := 15) C (9) dX9_goOn_15 (by decide) ?_
  refine r_dup2 (pc := 17) C dX9_goOn_17 rfl rfl ?_
  refine q_iald (pc := 18) C 9 dX9_goOn_18 (s_89 _) (sn_89 _) rfl (by omega) (by decide) ?_
  refine q_is g (by rw [up_at, walkP_lo (by decide)]; exact h9) ?_
  refine r_iconst (pc := 19) C (1) dX9_goOn_19 (by decide) ?_
  refine r_iadd (pc := 20) C dX9_goOn_20 ?_
  refine q_is (g + 1) (nI_1 g) ?_
  refine q_iast (pc := 21) C 9 dX9_goOn_21 (s_89 _) (sn_89 _) rfl (by omega) (by decide) ?_
  rw [u2_va]
  refine r_aload_n (pc := 22) C dX9_goOn_22 rfl ?_
  refine r_getr (pc := 23) C fX9_19 dX9_goOn_23 (s_85 _) rfl rfl ?_
  refine r_bipush (pc := 26) C (9) dX9_goOn_26 (by decide) ?_
  refine q_iald (pc := 28) C 9 dX9_goOn_28 (s_89 _) (sn_89 _) rfl (by omega) (by decide) ?_
  refine r_aload_n (pc := 29) C dX9_goOn_29 rfl ?_
  refine r_getr (pc := 30) C fX9_19 dX9_goOn_30 (s_85 _) rfl rfl ?_
  refine r_bipush (pc := 33) C (8) dX9_goOn_33 (by decide) ?_
  refine q_iald (pc := 35) C 8 dX9_goOn_35 (s_89 _) (sn_89 _) rfl (by omega) (by decide) ?_
  refine q_ge (pc := 36) C (g + 1) L 43 (by rw [up_at]; simp [upd]) (by rw [up_at]; simp only [upd]; rw [if_neg (by decide), walkP_lo (by decide)]; exact h8) (by omega) (by omega) dX9_goOn_36 (by decide) (fun c36 => ?_) (fun c36 => ?_)
  · refine q_vret (pc := 43) C dX9_goOn_43 rfl ?_
    simp only [goS]
    rw [if_neg (by omega)]
  · refine r_aload_n (pc := 39) C dX9_goOn_39 rfl ?_
    refine q_vVf (pc := 40) C kX9_180 dX9_goOn_40 (c_X9_leave (n := n) hn (by rw [up_at]; simp only [upd]; rw [if_neg (by decide), walkP_lo (by decide)]; exact h13)) (s_85 _) rfl rfl (Nat.le_of_ble_eq_true rfl) (by decide) ⟨by decide, by decide⟩ ?_
    refine q_vret (pc := 43) C dX9_goOn_43 rfl ?_
    rw [up_up]
    simp only [goS]
    rw [if_pos c36]
    rfl
set_option maxRecDepth 100000 in
set_option maxHeartbeats 4000000 in
theorem c_X9_all {G : GG} {kn : Nat} {f : MM} {n : Nat} (h13 : f 89 13 = nI n) : CI G mX9_all 1 kn [.ref (G.1 + 85)] f (((1 : Int32) <<< (nI n &&& 31)) - 1) f := by
  refine Ct.of [some (.ref (G.1 + 85))] rfl (by decide +kernel) rfl (Nat.le_of_ble_eq_true rfl) rfl ?_
  intro X C
  refine r_iconst (pc := 0) C (1) dX9_all_0 (by decide) ?_
  refine r_aload_n (pc := 1) C dX9_all_1 rfl ?_
  refine r_getr (pc := 2) C fX9_19 dX9_all_2 (s_85 _) rfl rfl ?_
  refine r_bipush (pc := 5) C (13) dX9_all_5 (by decide) ?_
  refine q_iald (pc := 7) C 13 dX9_all_7 (s_89 _) (sn_89 _) rfl (by omega) (by decide) ?_
  refine q_is n h13 ?_
  refine r_ishl (pc := 8) C dX9_all_8 ?_
  refine r_iconst (pc := 9) C (1) dX9_all_9 (by decide) ?_
  refine r_isub (pc := 10) C dX9_all_10 ?_
  refine q_iret (pc := 11) C dX9_all_11 rfl ?_
  exact ⟨rfl, rfl⟩
