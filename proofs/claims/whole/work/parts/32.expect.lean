/-! TEXTS: the class's reader, what it expects -/
theorem ts108_115 (x : Int32) : (x.toInt < 108 ∨ 115 < x.toInt) ∨ x = 108 ∨ x = 109 ∨ x = 110 ∨ x = 111 ∨ x = 112 ∨ x = 113 ∨ x = 114 ∨ x = 115 := by
  rcases Int.lt_or_le x.toInt 108 with h | h
  · exact Or.inl (Or.inl h)
  · rcases Int.lt_or_le 115 x.toInt with g | g
    · exact Or.inl (Or.inr g)
    · refine Or.inr ?_
      have key : ∀ v : Int32, x.toInt = v.toInt → x = v := fun v e => Int32.toInt_inj.mp e
      obtain ⟨n, hn⟩ : ∃ n : Nat, x.toInt = 108 + n := ⟨(x.toInt - 108).toNat, by omega⟩
      have hn2 : n < 8 := by omega
      match n, hn2, hn with
      | 0, _, hn => exact Or.inl (key 108 hn)
      | 1, _, hn => exact Or.inr (Or.inl (key 109 hn))
      | 2, _, hn => exact Or.inr (Or.inr (Or.inl (key 110 hn)))
      | 3, _, hn => exact Or.inr (Or.inr (Or.inr (Or.inl (key 111 hn))))
      | 4, _, hn => exact Or.inr (Or.inr (Or.inr (Or.inr (Or.inl (key 112 hn)))))
      | 5, _, hn => exact Or.inr (Or.inr (Or.inr (Or.inr (Or.inr (Or.inl (key 113 hn))))))
      | 6, _, hn => exact Or.inr (Or.inr (Or.inr (Or.inr (Or.inr (Or.inr (Or.inl (key 114 hn)))))))
      | 7, _, hn => exact Or.inr (Or.inr (Or.inr (Or.inr (Or.inr (Or.inr (Or.inr ((key 115 hn))))))))
set_option maxRecDepth 100000 in
set_option maxHeartbeats 4000000 in
theorem c_X4_blame {G : GG} {kn : Nat} {f : MM} {a : Int32} : CV G mX4_blame 1 kn [.ref (G.1 + 2), .int a] f (if f 2 6 = 0 then u2 (u2 f 2 6 a) 2 7 (f 2 4) else f) := by
  refine Ct.of [some (.ref (G.1 + 2)), some (.int a)] rfl (by decide +kernel) rfl (Nat.le_of_ble_eq_true rfl) rfl ?_
  intro X C
  refine r_aload_n (pc := 0) C dX4_blame_0 rfl ?_
  refine r_get (pc := 1) C fX4_19 dX4_blame_1 (s_2 _) rfl ?_
  refine r_if_ne (pc := 4) C 20 dX4_blame_4 (by decide) (fun c4 => ?_) (fun c4 => ?_)
  · refine q_vret (pc := 20) C dX4_blame_20 rfl ?_
    rw [if_neg c4]
  · refine r_aload_n (pc := 7) C dX4_blame_7 rfl ?_
    refine r_iload_n (pc := 8) C dX4_blame_8 rfl ?_
    refine r_put (pc := 9) C fX4_19 ftX4_6 dX4_blame_9 (s_2 _) rfl ?_
    refine r_aload_n (pc := 12) C dX4_blame_12 rfl ?_
    refine r_aload_n (pc := 13) C dX4_blame_13 rfl ?_
    refine r_get (pc := 14) C fX4_110 dX4_blame_14 (s_2 _) rfl ?_
    refine r_put (pc := 17) C fX4_113 ftX4_7 dX4_blame_17 (s_2 _) rfl ?_
    refine q_vret (pc := 20) C dX4_blame_20 rfl ?_
    rw [if_pos c4]
    simp [u2]
def PoC (tp : Nat → Int32) (len e p : Nat) (g : MM) : Prop := (e = 0 ∧ AtC tp len g p) ∨ (e ≠ 0 ∧ e ≤ 3 ∧ g 2 6 = nI e ∧ g 2 7 = nI p)
theorem nI_ne3 {e : Nat} (h : e ≠ 0) (h3 : e ≤ 3) : ¬ nI e = 0 := fun q => h ((nIz (by omega)).mp q)
theorem PoC.bad {tp : Nat → Int32} {len e p : Nat} {g : MM} (h : PoC tp len e p g) (he : e ≠ 0) : e ≤ 3 ∧ g 2 6 = nI e ∧ g 2 7 = nI p := by
  rcases h with h | h
  · exact absurd h.1 he
  · exact h.2
theorem PoC.good {tp : Nat → Int32} {len e p : Nat} {g : MM} (h : PoC tp len e p g) (he : e = 0) : AtC tp len g p := by
  rcases h with h | h
  · exact h.2
  · exact absurd he h.1
theorem PoC.flt {tp : Nat → Int32} {len e p : Nat} {g : MM} (h : PoC tp len e p g) : g 2 6 = 0 ↔ e = 0 := by
  rcases h with h | h
  · exact ⟨fun _ => h.1, fun _ => h.2.ok⟩
  · exact ⟨fun q => by rw [h.2.2.1] at q; exact absurd q (nI_ne3 h.1 h.2.1), fun q => absurd q h.1⟩
theorem PoC.eq {tp : Nat → Int32} {len e p e2 p2 : Nat} {g : MM} (h : PoC tp len e p g) (h1 : e2 = e) (h2 : p2 = p) : PoC tp len e2 p2 g := by subst h1; subst h2; exact h
def blF (f : MM) (a : Int32) : MM := if f 2 6 = 0 then u2 (u2 f 2 6 a) 2 7 (f 2 4) else f
theorem AtC.blame {tp : Nat → Int32} {len p n : Nat} {f : MM} (h : AtC tp len f p) (hn : n ≠ 0) (h3 : n ≤ 3) : PoC tp len n p (if f 2 6 = 0 then u2 (u2 f 2 6 (nI n)) 2 7 (f 2 4) else f) := by
  rw [if_pos h.ok]
  exact Or.inr ⟨hn, h3, by simp [u2], by simp [u2, h.at]⟩
theorem agQ.bl {f : MM} {a : Int32} : agQ f (if f 2 6 = 0 then u2 (u2 f 2 6 a) 2 7 (f 2 4) else f) := by
  split
  · exact (agQ.rf.put (by decide) (by decide)).put (by decide) (by decide)
  · exact agQ.rf
theorem bl_no {f : MM} {a : Int32} (h : ¬ f 2 6 = 0) : (if f 2 6 = 0 then u2 (u2 f 2 6 a) 2 7 (f 2 4) else f) = f := if_neg h
theorem tkS_yes {tp : Nat → Int32} {len : Nat} {c : Int32} {s : PR} (h : s.1 = 0) (h2 : isT tp len s.2.1 c = true) : tkS tp len c s = (0, nx tp len s.2.1, s.2.2) := by unfold tkS; rw [if_pos h, if_pos h2]
theorem tkS_no {tp : Nat → Int32} {len : Nat} {c : Int32} {s : PR} (h : s.1 = 0) (h2 : ¬ isT tp len s.2.1 c = true) : tkS tp len c s = (1, s.2.1, s.2.2) := by unfold tkS; rw [if_pos h, if_neg h2]
theorem tkS_bad {tp : Nat → Int32} {len : Nat} {c : Int32} {s : PR} (h : s.1 ≠ 0) : tkS tp len c s = s := by unfold tkS; rw [if_neg h]
def numC (tp : Nat → Int32) (len : Nat) (lo hi : Int32) (rm : Bool) (e p : Nat) : Nat × Nat := if e = 0 then (if knd tp len p = 2 then (if lo ≤ vl tp len p ∧ vl tp len p ≤ hi then (if rm = true then (0, nx tp len p) else (3, p)) else (2, p)) else (1, p)) else (e, p)
theorem numC_S {tp : Nat → Int32} {len : Nat} {lo hi : Int32} {ix : Nat} {s : PR} : numC tp len lo hi true s.1 s.2.1 = ((numS tp len lo hi ix s).1, (numS tp len lo hi ix s).2.1) := by
  unfold numC numS
  split
  · split
    · split <;> rfl
    · rfl
  · rfl
set_option maxRecDepth 100000 in
set_option maxHeartbeats 4000000 in
theorem c_X4_expect {G : GG} {kn : Nat} {f : MM} {tp : Nat → Int32} {len : Nat} {c : Int32} {s : PR} (h : PoC tp len s.1 s.2.1 f) (hc : 0 ≤ c.toInt) : RV G mX4_expect 4 kn [.ref (G.1 + 2), .int c] f (fun g => PoC tp len (tkS tp len c s).1 (tkS tp len c s).2.1 g ∧ agQ f g) := by
  refine Ct.of [some (.ref (G.1 + 2)), some (.int c)] rfl (by decide +kernel) rfl (Nat.le_of_ble_eq_true rfl) rfl ?_
  intro X C
  rcases h with ⟨e0, hA⟩ | ⟨e0, e3, h6, h7⟩
  · skip
    refine r_aload_n (pc := 0) C dX4_expect_0 rfl ?_
    refine r_get (pc := 1) C fX4_83 dX4_expect_1 (s_2 _) rfl ?_
    refine q_val _ hA.tk ?_
    refine r_iload_n (pc := 4) C dX4_expect_4 rfl ?_
    refine r_icmp_ne (pc := 5) C 15 dX4_expect_5 (by decide) (fun c5 => ?_) (fun c5 => ?_)
    · refine r_aload_n (pc := 15) C dX4_expect_15 rfl ?_
      refine r_iconst (pc := 16) C (1) dX4_expect_16 (by decide) ?_
      refine q_vVf (pc := 17) C kX4_104 dX4_expect_17 (c_X4_blame (a := nI 1)) (s_2 _) rfl rfl (Nat.le_of_ble_eq_true rfl) (by decide) ⟨by decide, by decide⟩ ?_
      refine q_vret (pc := 20) C dX4_expect_20 rfl ?_
      rw [tkS_no e0 (fun q => c5 ((tkC_is hc).mpr q))]
      exact ⟨hA.blame (n := 1) (by omega) (by omega), agQ.bl⟩
    · refine r_aload_n (pc := 8) C dX4_expect_8 rfl ?_
      refine q_vV (pc := 9) C kX4_25 dX4_expect_9 (c_X4_advance (tp := tp) (len := len) hA.hlen hA.tap hA.ln hA.nxt hA.ok hA.nxl) (s_2 _) rfl rfl (Nat.le_of_ble_eq_true rfl) (by decide) ⟨by decide, by decide⟩ ?_
      intro f9 h9
      refine r_goto (pc := 12) C 20 dX4_expect_12 (by decide) ?_
      refine q_vret (pc := 20) C dX4_expect_20 rfl ?_
      rw [tkS_yes e0 ((tkC_is hc).mp c5)]
      exact ⟨Or.inl ⟨rfl, h9.1⟩, h9.2⟩
  · skip
    refine r_aload_n (pc := 0) C dX4_expect_0 rfl ?_
    refine r_get (pc := 1) C fX4_83 dX4_expect_1 (s_2 _) rfl ?_
    refine r_iload_n (pc := 4) C dX4_expect_4 rfl ?_
    refine r_icmp_ne (pc := 5) C 15 dX4_expect_5 (by decide) (fun c5 => ?_) (fun c5 => ?_)
    · refine r_aload_n (pc := 15) C dX4_expect_15 rfl ?_
      refine r_iconst (pc := 16) C (1) dX4_expect_16 (by decide) ?_
      refine q_vVf (pc := 17) C kX4_104 dX4_expect_17 (c_X4_blame (a := nI 1)) (s_2 _) rfl rfl (Nat.le_of_ble_eq_true rfl) (by decide) ⟨by decide, by decide⟩ ?_
      refine q_vret (pc := 20) C dX4_expect_20 rfl ?_
      rw [tkS_bad e0, bl_no (by rw [h6]; exact nI_ne3 e0 e3)]
      exact ⟨Or.inr ⟨e0, e3, h6, h7⟩, agQ.rf⟩
    · refine r_aload_n (pc := 8) C dX4_expect_8 rfl ?_
      refine q_vVf (pc := 9) C kX4_25 dX4_expect_9 (c_X4_advanceF (by rw [h6]; exact nI_ne3 e0 e3)) (s_2 _) rfl rfl (Nat.le_of_ble_eq_true rfl) (by decide) ⟨by decide, by decide⟩ ?_
      refine r_goto (pc := 12) C 20 dX4_expect_12 (by decide) ?_
      refine q_vret (pc := 20) C dX4_expect_20 rfl ?_
      rw [tkS_bad e0]
      exact ⟨Or.inr ⟨e0, e3, h6, h7⟩, agQ.rf⟩
set_option maxRecDepth 100000 in
set_option maxHeartbeats 4000000 in
theorem c_X4_accept {G : GG} {kn : Nat} {f : MM} {tp : Nat → Int32} {len e p : Nat} {c : Int32} (h : PoC tp len e p f) (hc : 0 ≤ c.toInt) : RI G mX4_accept 4 kn [.ref (G.1 + 2), .int c] f (fun v g => (e = 0 ∧ isT tp len p c = true ∧ v = 1 ∧ AtC tp len g (nx tp len p) ∧ agQ f g) ∨ ((e ≠ 0 ∨ isT tp len p c = false) ∧ v = 0 ∧ g = f)) := by
  refine Ct.of [some (.ref (G.1 + 2)), some (.int c)] rfl (by decide +kernel) rfl (Nat.le_of_ble_eq_true rfl) rfl ?_
  intro X C
  rcases h with ⟨e0, hA⟩ | ⟨e0, e3, h6, h7⟩
  · skip
    refine r_aload_n (pc := 0) C dX4_accept_0 rfl ?_
    refine r_get (pc := 1) C fX4_19 dX4_accept_1 (s_2 _) rfl ?_
    refine r_if_ne (pc := 4) C 15 dX4_accept_4 (by decide) (fun c4 => ?_) (fun c4 => ?_)
    · exact absurd hA.ok c4
    · refine r_aload_n (pc := 7) C dX4_accept_7 rfl ?_
      refine r_get (pc := 8) C fX4_83 dX4_accept_8 (s_2 _) rfl ?_
      refine q_val _ hA.tk ?_
      refine r_iload_n (pc := 11) C dX4_accept_11 rfl ?_
      refine r_icmp_eq (pc := 12) C 17 dX4_accept_12 (by decide) (fun c12 => ?_) (fun c12 => ?_)
      · refine r_aload_n (pc := 17) C dX4_accept_17 rfl ?_
        refine q_vV (pc := 18) C kX4_25 dX4_accept_18 (c_X4_advance (tp := tp) (len := len) hA.hlen hA.tap hA.ln hA.nxt hA.ok hA.nxl) (s_2 _) rfl rfl (Nat.le_of_ble_eq_true rfl) (by decide) ⟨by decide, by decide⟩ ?_
        intro f18 h18
        refine r_iconst (pc := 21) C (1) dX4_accept_21 (by decide) ?_
        refine q_zret (pc := 22) C dX4_accept_22 rfl (Or.inr rfl) ?_
        exact Or.inl ⟨e0, (tkC_is hc).mp c12, rfl, h18.1, h18.2⟩
      · refine r_iconst (pc := 15) C (0) dX4_accept_15 (by decide) ?_
        refine q_zret (pc := 16) C dX4_accept_16 rfl (Or.inl rfl) ?_
        refine Or.inr ⟨Or.inr ?_, rfl, rfl⟩
        have q := mt (tkC_is hc).mpr c12
        simpa using q
  · skip
    refine r_aload_n (pc := 0) C dX4_accept_0 rfl ?_
    refine r_get (pc := 1) C fX4_19 dX4_accept_1 (s_2 _) rfl ?_
    refine r_if_ne (pc := 4) C 15 dX4_accept_4 (by decide) (fun c4 => ?_) (fun c4 => ?_)
    · refine r_iconst (pc := 15) C (0) dX4_accept_15 (by decide) ?_
      refine q_zret (pc := 16) C dX4_accept_16 rfl (Or.inl rfl) ?_
      exact Or.inr ⟨Or.inl e0, rfl, rfl⟩
    · exact absurd c4 (by rw [h6]; exact nI_ne3 e0 e3)
set_option maxRecDepth 100000 in
set_option maxHeartbeats 4000000 in
theorem c_X4_expectNumber {G : GG} {kn : Nat} {f : MM} {tp : Nat → Int32} {len e p : Nat} {lo hi : Int32} {rm : Bool} (h : PoC tp len e p f) : RI G mX4_expectNumber 4 kn [.ref (G.1 + 2), .int lo, .int hi, .int (b1 rm)] f (fun v g => PoC tp len (numC tp len lo hi rm e p).1 (numC tp len lo hi rm e p).2 g ∧ agQ f g ∧ ((numC tp len lo hi rm e p).1 = 0 → v = vl tp len p ∧ lo ≤ v ∧ v ≤ hi)) := by
  refine Ct.of [some (.ref (G.1 + 2)), some (.int lo), some (.int hi), some (.int (b1 rm)), none] rfl (by decide +kernel) rfl (Nat.le_of_ble_eq_true rfl) rfl ?_
  intro X C
  rcases h with ⟨e0, hA⟩ | ⟨e0, e3, h6, h7⟩
  · skip
    refine r_aload_n (pc := 0) C dX4_expectNumber_0 rfl ?_
    refine r_get (pc := 1) C fX4_107 dX4_expectNumber_1 (s_2 _) rfl ?_
    refine r_istore (pc := 4) C dX4_expectNumber_4 (by decide) rfl ?_
    refine r_aload_n (pc := 6) C dX4_expectNumber_6 rfl ?_
    refine r_get (pc := 7) C fX4_83 dX4_expectNumber_7 (s_2 _) rfl ?_
    refine q_val _ hA.tk ?_
    refine r_bipush (pc := 10) C (-3) dX4_expectNumber_10 (by decide) ?_
    refine r_icmp_eq (pc := 12) C 23 dX4_expectNumber_12 (by decide) (fun c12 => ?_) (fun c12 => ?_)
    · refine r_iload (pc := 23) C dX4_expectNumber_23 rfl ?_
      refine r_iload_n (pc := 25) C dX4_expectNumber_25 rfl ?_
      refine r_icmp_lt (pc := 26) C 35 dX4_expectNumber_26 (by decide) (fun c26 => ?_) (fun c26 => ?_)
      · refine r_aload_n (pc := 35) C dX4_expectNumber_35 rfl ?_
        refine r_iconst (pc := 36) C (2) dX4_expectNumber_36 (by decide) ?_
        refine q_vVf (pc := 37) C kX4_104 dX4_expectNumber_37 (c_X4_blame (a := nI 2)) (s_2 _) rfl rfl (Nat.le_of_ble_eq_true rfl) (by decide) ⟨by decide, by decide⟩ ?_
        refine r_goto (pc := 40) C 59 dX4_expectNumber_40 (by decide) ?_
        refine r_iload (pc := 59) C dX4_expectNumber_59 rfl ?_
        refine q_iret (pc := 61) C dX4_expectNumber_61 rfl ?_
        have kn2 := tkC_n.mp c12
        have ev := hA.nm kn2
        have out : ¬ (lo ≤ vl tp len p ∧ vl tp len p ≤ hi) := by
          rw [← ev]
          first | exact fun q => absurd c26 (Int32.not_lt.mpr q.1) | exact fun q => absurd q.2 c32
        rw [show numC tp len lo hi rm e p = (2, p) by unfold numC; rw [if_pos e0, if_pos kn2, if_neg out]]
        exact ⟨hA.blame (n := 2) (by omega) (by omega), agQ.bl, fun q => by cases q⟩
      · refine r_iload (pc := 29) C dX4_expectNumber_29 rfl ?_
        refine r_iload_n (pc := 31) C dX4_expectNumber_31 rfl ?_
        refine r_icmp_le (pc := 32) C 43 dX4_expectNumber_32 (by decide) (fun c32 => ?_) (fun c32 => ?_)
        · refine r_iload_n (pc := 43) C dX4_expectNumber_43 rfl ?_
          refine r_if_ne (pc := 44) C 55 dX4_expectNumber_44 (by decide) (fun c44 => ?_) (fun c44 => ?_)
          · replace c44 := b1_1 c44
            refine r_aload_n (pc := 55) C dX4_expectNumber_55 rfl ?_
            refine q_vV (pc := 56) C kX4_25 dX4_expectNumber_56 (c_X4_advance (tp := tp) (len := len) hA.hlen hA.tap hA.ln hA.nxt hA.ok hA.nxl) (s_2 _) rfl rfl (Nat.le_of_ble_eq_true rfl) (by decide) ⟨by decide, by decide⟩ ?_
            intro f56 h56
            refine r_iload (pc := 59) C dX4_expectNumber_59 rfl ?_
            refine q_iret (pc := 61) C dX4_expectNumber_61 rfl ?_
            have kn2 := tkC_n.mp c12
            have ev := hA.nm kn2
            have inn : lo ≤ vl tp len p ∧ vl tp len p ≤ hi := by rw [← ev]; exact ⟨Int32.not_lt.mp c26, c32⟩
            rw [show numC tp len lo hi rm e p = (0, nx tp len p) by unfold numC; rw [if_pos e0, if_pos kn2, if_pos inn, if_pos c44]]
            rw [ev]
            exact ⟨Or.inl ⟨rfl, h56.1⟩, h56.2, fun _ => ⟨rfl, inn⟩⟩
          · replace c44 := b1_0 c44
            refine r_aload_n (pc := 47) C dX4_expectNumber_47 rfl ?_
            refine r_iconst (pc := 48) C (3) dX4_expectNumber_48 (by decide) ?_
            refine q_vVf (pc := 49) C kX4_104 dX4_expectNumber_49 (c_X4_blame (a := nI 3)) (s_2 _) rfl rfl (Nat.le_of_ble_eq_true rfl) (by decide) ⟨by decide, by decide⟩ ?_
            refine r_goto (pc := 52) C 59 dX4_expectNumber_52 (by decide) ?_
            refine r_iload (pc := 59) C dX4_expectNumber_59 rfl ?_
            refine q_iret (pc := 61) C dX4_expectNumber_61 rfl ?_
            have kn2 := tkC_n.mp c12
            have ev := hA.nm kn2
            have inn : lo ≤ vl tp len p ∧ vl tp len p ≤ hi := by rw [← ev]; exact ⟨Int32.not_lt.mp c26, c32⟩
            rw [show numC tp len lo hi rm e p = (3, p) by unfold numC; rw [if_pos e0, if_pos kn2, if_pos inn, if_neg (by rw [c44]; decide)]]
            exact ⟨hA.blame (n := 3) (by omega) (by omega), agQ.bl, fun q => by cases q⟩
        · refine r_aload_n (pc := 35) C dX4_expectNumber_35 rfl ?_
          refine r_iconst (pc := 36) C (2) dX4_expectNumber_36 (by decide) ?_
          refine q_vVf (pc := 37) C kX4_104 dX4_expectNumber_37 (c_X4_blame (a := nI 2)) (s_2 _) rfl rfl (Nat.le_of_ble_eq_true rfl) (by decide) ⟨by decide, by decide⟩ ?_
          refine r_goto (pc := 40) C 59 dX4_expectNumber_40 (by decide) ?_
          refine r_iload (pc := 59) C dX4_expectNumber_59 rfl ?_
          refine q_iret (pc := 61) C dX4_expectNumber_61 rfl ?_
          have kn2 := tkC_n.mp c12
          have ev := hA.nm kn2
          have out : ¬ (lo ≤ vl tp len p ∧ vl tp len p ≤ hi) := by
            rw [← ev]
            first | exact fun q => absurd c26 (Int32.not_lt.mpr q.1) | exact fun q => absurd q.2 c32
          rw [show numC tp len lo hi rm e p = (2, p) by unfold numC; rw [if_pos e0, if_pos kn2, if_neg out]]
          exact ⟨hA.blame (n := 2) (by omega) (by omega), agQ.bl, fun q => by cases q⟩
    · refine r_aload_n (pc := 15) C dX4_expectNumber_15 rfl ?_
      refine r_iconst (pc := 16) C (1) dX4_expectNumber_16 (by decide) ?_
      refine q_vVf (pc := 17) C kX4_104 dX4_expectNumber_17 (c_X4_blame (a := nI 1)) (s_2 _) rfl rfl (Nat.le_of_ble_eq_true rfl) (by decide) ⟨by decide, by decide⟩ ?_
      refine r_goto (pc := 20) C 59 dX4_expectNumber_20 (by decide) ?_
      refine r_iload (pc := 59) C dX4_expectNumber_59 rfl ?_
      refine q_iret (pc := 61) C dX4_expectNumber_61 rfl ?_
      rw [show numC tp len lo hi rm e p = (1, p) by unfold numC; rw [if_pos e0, if_neg (fun q => c12 (tkC_n.mpr q))]]
      exact ⟨hA.blame (n := 1) (by omega) (by omega), agQ.bl, fun q => by cases q⟩
  · skip
    refine r_aload_n (pc := 0) C dX4_expectNumber_0 rfl ?_
    refine r_get (pc := 1) C fX4_107 dX4_expectNumber_1 (s_2 _) rfl ?_
    refine r_istore (pc := 4) C dX4_expectNumber_4 (by decide) rfl ?_
    refine r_aload_n (pc := 6) C dX4_expectNumber_6 rfl ?_
    refine r_get (pc := 7) C fX4_83 dX4_expectNumber_7 (s_2 _) rfl ?_
    refine r_bipush (pc := 10) C (-3) dX4_expectNumber_10 (by decide) ?_
    refine r_icmp_eq (pc := 12) C 23 dX4_expectNumber_12 (by decide) (fun c12 => ?_) (fun c12 => ?_)
    · refine r_iload (pc := 23) C dX4_expectNumber_23 rfl ?_
      refine r_iload_n (pc := 25) C dX4_expectNumber_25 rfl ?_
      refine r_icmp_lt (pc := 26) C 35 dX4_expectNumber_26 (by decide) (fun c26 => ?_) (fun c26 => ?_)
      · refine r_aload_n (pc := 35) C dX4_expectNumber_35 rfl ?_
        refine r_iconst (pc := 36) C (2) dX4_expectNumber_36 (by decide) ?_
        refine q_vVf (pc := 37) C kX4_104 dX4_expectNumber_37 (c_X4_blame (a := nI 2)) (s_2 _) rfl rfl (Nat.le_of_ble_eq_true rfl) (by decide) ⟨by decide, by decide⟩ ?_
        refine r_goto (pc := 40) C 59 dX4_expectNumber_40 (by decide) ?_
        refine r_iload (pc := 59) C dX4_expectNumber_59 rfl ?_
        refine q_iret (pc := 61) C dX4_expectNumber_61 rfl ?_
        rw [show numC tp len lo hi rm e p = (e, p) by unfold numC; rw [if_neg e0]]
        rw [bl_no (by rw [h6]; exact nI_ne3 e0 e3)]
        exact ⟨Or.inr ⟨e0, e3, h6, h7⟩, agQ.rf, fun q => absurd q e0⟩
      · refine r_iload (pc := 29) C dX4_expectNumber_29 rfl ?_
        refine r_iload_n (pc := 31) C dX4_expectNumber_31 rfl ?_
        refine r_icmp_le (pc := 32) C 43 dX4_expectNumber_32 (by decide) (fun c32 => ?_) (fun c32 => ?_)
        · refine r_iload_n (pc := 43) C dX4_expectNumber_43 rfl ?_
          refine r_if_ne (pc := 44) C 55 dX4_expectNumber_44 (by decide) (fun c44 => ?_) (fun c44 => ?_)
          · replace c44 := b1_1 c44
            refine r_aload_n (pc := 55) C dX4_expectNumber_55 rfl ?_
            refine q_vVf (pc := 56) C kX4_25 dX4_expectNumber_56 (c_X4_advanceF (by rw [h6]; exact nI_ne3 e0 e3)) (s_2 _) rfl rfl (Nat.le_of_ble_eq_true rfl) (by decide) ⟨by decide, by decide⟩ ?_
            refine r_iload (pc := 59) C dX4_expectNumber_59 rfl ?_
            refine q_iret (pc := 61) C dX4_expectNumber_61 rfl ?_
            rw [show numC tp len lo hi rm e p = (e, p) by unfold numC; rw [if_neg e0]]
            exact ⟨Or.inr ⟨e0, e3, h6, h7⟩, agQ.rf, fun q => absurd q e0⟩
          · replace c44 := b1_0 c44
            refine r_aload_n (pc := 47) C dX4_expectNumber_47 rfl ?_
            refine r_iconst (pc := 48) C (3) dX4_expectNumber_48 (by decide) ?_
            refine q_vVf (pc := 49) C kX4_104 dX4_expectNumber_49 (c_X4_blame (a := nI 3)) (s_2 _) rfl rfl (Nat.le_of_ble_eq_true rfl) (by decide) ⟨by decide, by decide⟩ ?_
            refine r_goto (pc := 52) C 59 dX4_expectNumber_52 (by decide) ?_
            refine r_iload (pc := 59) C dX4_expectNumber_59 rfl ?_
            refine q_iret (pc := 61) C dX4_expectNumber_61 rfl ?_
            rw [show numC tp len lo hi rm e p = (e, p) by unfold numC; rw [if_neg e0]]
            rw [bl_no (by rw [h6]; exact nI_ne3 e0 e3)]
            exact ⟨Or.inr ⟨e0, e3, h6, h7⟩, agQ.rf, fun q => absurd q e0⟩
        · refine r_aload_n (pc := 35) C dX4_expectNumber_35 rfl ?_
          refine r_iconst (pc := 36) C (2) dX4_expectNumber_36 (by decide) ?_
          refine q_vVf (pc := 37) C kX4_104 dX4_expectNumber_37 (c_X4_blame (a := nI 2)) (s_2 _) rfl rfl (Nat.le_of_ble_eq_true rfl) (by decide) ⟨by decide, by decide⟩ ?_
          refine r_goto (pc := 40) C 59 dX4_expectNumber_40 (by decide) ?_
          refine r_iload (pc := 59) C dX4_expectNumber_59 rfl ?_
          refine q_iret (pc := 61) C dX4_expectNumber_61 rfl ?_
          rw [show numC tp len lo hi rm e p = (e, p) by unfold numC; rw [if_neg e0]]
          rw [bl_no (by rw [h6]; exact nI_ne3 e0 e3)]
          exact ⟨Or.inr ⟨e0, e3, h6, h7⟩, agQ.rf, fun q => absurd q e0⟩
    · refine r_aload_n (pc := 15) C dX4_expectNumber_15 rfl ?_
      refine r_iconst (pc := 16) C (1) dX4_expectNumber_16 (by decide) ?_
      refine q_vVf (pc := 17) C kX4_104 dX4_expectNumber_17 (c_X4_blame (a := nI 1)) (s_2 _) rfl rfl (Nat.le_of_ble_eq_true rfl) (by decide) ⟨by decide, by decide⟩ ?_
      refine r_goto (pc := 20) C 59 dX4_expectNumber_20 (by decide) ?_
      refine r_iload (pc := 59) C dX4_expectNumber_59 rfl ?_
      refine q_iret (pc := 61) C dX4_expectNumber_61 rfl ?_
      rw [show numC tp len lo hi rm e p = (e, p) by unfold numC; rw [if_neg e0]]
      rw [bl_no (by rw [h6]; exact nI_ne3 e0 e3)]
      exact ⟨Or.inr ⟨e0, e3, h6, h7⟩, agQ.rf, fun q => absurd q e0⟩
set_option maxRecDepth 100000 in
set_option maxHeartbeats 4000000 in
theorem c_X4_kindOf {G : GG} {kn : Nat} {f : MM} {a : Int32} : CI G mX4_kindOf 1 kn [.int a] f (nI (sortK a)) f := by
  refine Ct.of [some (.int a)] rfl (by decide +kernel) rfl (Nat.le_of_ble_eq_true rfl) rfl ?_
  intro X C
  refine r_iload_n (pc := 0) C dX4_kindOf_0 rfl ?_
  refine r_top (fun x1 hx1 => ?_)
  rcases ts108_115 x1 with c1 | c1 | c1 | c1 | c1 | c1 | c1 | c1 | c1
  · refine r_tableOut (pc := 1) C 58 dX4_kindOf_1 c1 (by decide) ?_
    refine r_iconst (pc := 58) C (0) dX4_kindOf_58 (by decide) ?_
    refine q_iret (pc := 59) C dX4_kindOf_59 rfl ?_
    subst hx1
    refine ⟨?_, rfl⟩
    first | (subst c1; decide) | (unfold sortK; rw [if_neg (tsne c1 (by decide)), if_neg (tsne c1 (by decide)), if_neg (tsne c1 (by decide)), if_neg (tsne c1 (by decide)), if_neg (tsne c1 (by decide))]; rfl)
  · refine r_tableEq (pc := 1) C 56 (108) c1 dX4_kindOf_1 (by decide) (by decide) rfl (by decide) ?_
    refine r_iconst (pc := 56) C (5) dX4_kindOf_56 (by decide) ?_
    refine q_iret (pc := 57) C dX4_kindOf_57 rfl ?_
    subst hx1
    refine ⟨?_, rfl⟩
    first | (subst c1; decide) | (unfold sortK; rw [if_neg (tsne c1 (by decide)), if_neg (tsne c1 (by decide)), if_neg (tsne c1 (by decide)), if_neg (tsne c1 (by decide)), if_neg (tsne c1 (by decide))]; rfl)
  · refine r_tableEq (pc := 1) C 58 (109) c1 dX4_kindOf_1 (by decide) (by decide) rfl (by decide) ?_
    refine r_iconst (pc := 58) C (0) dX4_kindOf_58 (by decide) ?_
    refine q_iret (pc := 59) C dX4_kindOf_59 rfl ?_
    subst hx1
    refine ⟨?_, rfl⟩
    first | (subst c1; decide) | (unfold sortK; rw [if_neg (tsne c1 (by decide)), if_neg (tsne c1 (by decide)), if_neg (tsne c1 (by decide)), if_neg (tsne c1 (by decide)), if_neg (tsne c1 (by decide))]; rfl)
  · refine r_tableEq (pc := 1) C 58 (110) c1 dX4_kindOf_1 (by decide) (by decide) rfl (by decide) ?_
    refine r_iconst (pc := 58) C (0) dX4_kindOf_58 (by decide) ?_
    refine q_iret (pc := 59) C dX4_kindOf_59 rfl ?_
    subst hx1
    refine ⟨?_, rfl⟩
    first | (subst c1; decide) | (unfold sortK; rw [if_neg (tsne c1 (by decide)), if_neg (tsne c1 (by decide)), if_neg (tsne c1 (by decide)), if_neg (tsne c1 (by decide)), if_neg (tsne c1 (by decide))]; rfl)
  · refine r_tableEq (pc := 1) C 54 (111) c1 dX4_kindOf_1 (by decide) (by decide) rfl (by decide) ?_
    refine r_iconst (pc := 54) C (4) dX4_kindOf_54 (by decide) ?_
    refine q_iret (pc := 55) C dX4_kindOf_55 rfl ?_
    subst hx1
    refine ⟨?_, rfl⟩
    first | (subst c1; decide) | (unfold sortK; rw [if_neg (tsne c1 (by decide)), if_neg (tsne c1 (by decide)), if_neg (tsne c1 (by decide)), if_neg (tsne c1 (by decide)), if_neg (tsne c1 (by decide))]; rfl)
  · refine r_tableEq (pc := 1) C 52 (112) c1 dX4_kindOf_1 (by decide) (by decide) rfl (by decide) ?_
    refine r_iconst (pc := 52) C (3) dX4_kindOf_52 (by decide) ?_
    refine q_iret (pc := 53) C dX4_kindOf_53 rfl ?_
    subst hx1
    refine ⟨?_, rfl⟩
    first | (subst c1; decide) | (unfold sortK; rw [if_neg (tsne c1 (by decide)), if_neg (tsne c1 (by decide)), if_neg (tsne c1 (by decide)), if_neg (tsne c1 (by decide)), if_neg (tsne c1 (by decide))]; rfl)
  · refine r_tableEq (pc := 1) C 50 (113) c1 dX4_kindOf_1 (by decide) (by decide) rfl (by decide) ?_
    refine r_iconst (pc := 50) C (2) dX4_kindOf_50 (by decide) ?_
    refine q_iret (pc := 51) C dX4_kindOf_51 rfl ?_
    subst hx1
    refine ⟨?_, rfl⟩
    first | (subst c1; decide) | (unfold sortK; rw [if_neg (tsne c1 (by decide)), if_neg (tsne c1 (by decide)), if_neg (tsne c1 (by decide)), if_neg (tsne c1 (by decide)), if_neg (tsne c1 (by decide))]; rfl)
  · refine r_tableEq (pc := 1) C 58 (114) c1 dX4_kindOf_1 (by decide) (by decide) rfl (by decide) ?_
    refine r_iconst (pc := 58) C (0) dX4_kindOf_58 (by decide) ?_
    refine q_iret (pc := 59) C dX4_kindOf_59 rfl ?_
    subst hx1
    refine ⟨?_, rfl⟩
    first | (subst c1; decide) | (unfold sortK; rw [if_neg (tsne c1 (by decide)), if_neg (tsne c1 (by decide)), if_neg (tsne c1 (by decide)), if_neg (tsne c1 (by decide)), if_neg (tsne c1 (by decide))]; rfl)
  · refine r_tableEq (pc := 1) C 48 (115) c1 dX4_kindOf_1 (by decide) (by decide) rfl (by decide) ?_
    refine r_iconst (pc := 48) C (1) dX4_kindOf_48 (by decide) ?_
    refine q_iret (pc := 49) C dX4_kindOf_49 rfl ?_
    subst hx1
    refine ⟨?_, rfl⟩
    first | (subst c1; decide) | (unfold sortK; rw [if_neg (tsne c1 (by decide)), if_neg (tsne c1 (by decide)), if_neg (tsne c1 (by decide)), if_neg (tsne c1 (by decide)), if_neg (tsne c1 (by decide))]; rfl)
set_option maxRecDepth 100000 in
set_option maxHeartbeats 4000000 in
theorem c_X4_expectSort {G : GG} {kn : Nat} {f : MM} {tp : Nat → Int32} {len p : Nat} {rm : Bool} (hA : AtC tp len f p) : RI G mX4_expectSort 4 kn [.ref (G.1 + 2), .int (b1 rm)] f (fun v g => v = nI (kdS tp len p) ∧ PoC tp len (if kdS tp len p = 0 then 1 else if rm = true then 0 else 3) (if kdS tp len p = 0 then p else if rm = true then nx tp len p else p) g ∧ agQ f g) := by
  refine Ct.of [some (.ref (G.1 + 2)), some (.int (b1 rm)), none] rfl (by decide +kernel) rfl (Nat.le_of_ble_eq_true rfl) rfl ?_
  intro X C
  have k5 := kdS_le (tp := tp) (len := len) (p := p)
  refine r_aload_n (pc := 0) C dX4_expectSort_0 rfl ?_
  refine r_get (pc := 1) C fX4_83 dX4_expectSort_1 (s_2 _) rfl ?_
  refine q_val _ hA.tk ?_
  refine q_sIf (pc := 4) C kX4_100 dX4_expectSort_4 (c_X4_kindOf) rfl rfl (Nat.le_of_ble_eq_true rfl) (by decide) ⟨by decide, by decide⟩ ?_
  refine q_is (kdS tp len p) (by rw [sort_tk]) ?_
  refine r_istore_n (pc := 7) C dX4_expectSort_7 (by decide) rfl ?_
  refine r_iload_n (pc := 8) C dX4_expectSort_8 rfl ?_
  refine r_if_ne (pc := 9) C 20 dX4_expectSort_9 (by decide) (fun c9 => ?_) (fun c9 => ?_)
  · have k0 : ¬ kdS tp len p = 0 := fun q => c9 ((nIz (by omega)).mpr q)
    refine r_iload_n (pc := 20) C dX4_expectSort_20 rfl ?_
    refine r_if_ne (pc := 21) C 32 dX4_expectSort_21 (by decide) (fun c21 => ?_) (fun c21 => ?_)
    · replace c21 := b1_1 c21
      refine r_aload_n (pc := 32) C dX4_expectSort_32 rfl ?_
      refine q_vV (pc := 33) C kX4_25 dX4_expectSort_33 (c_X4_advance (tp := tp) (len := len) hA.hlen hA.tap hA.ln hA.nxt hA.ok hA.nxl) (s_2 _) rfl rfl (Nat.le_of_ble_eq_true rfl) (by decide) ⟨by decide, by decide⟩ ?_
      intro f33 h33
      refine r_iload_n (pc := 36) C dX4_expectSort_36 rfl ?_
      refine q_iret (pc := 37) C dX4_expectSort_37 rfl ?_
      rw [if_neg k0, if_neg k0, if_pos c21, if_pos c21]
      exact ⟨rfl, Or.inl ⟨rfl, h33.1⟩, h33.2⟩
    · replace c21 := b1_0 c21
      refine r_aload_n (pc := 24) C dX4_expectSort_24 rfl ?_
      refine r_iconst (pc := 25) C (3) dX4_expectSort_25 (by decide) ?_
      refine q_vVf (pc := 26) C kX4_104 dX4_expectSort_26 (c_X4_blame (a := nI 3)) (s_2 _) rfl rfl (Nat.le_of_ble_eq_true rfl) (by decide) ⟨by decide, by decide⟩ ?_
      refine r_goto (pc := 29) C 36 dX4_expectSort_29 (by decide) ?_
      refine r_iload_n (pc := 36) C dX4_expectSort_36 rfl ?_
      refine q_iret (pc := 37) C dX4_expectSort_37 rfl ?_
      rw [if_neg k0, if_neg k0, if_neg (by rw [c21]; decide), if_neg (by rw [c21]; decide)]
      exact ⟨rfl, hA.blame (n := 3) (by omega) (by omega), agQ.bl⟩
  · have k0 : kdS tp len p = 0 := (nIz (by omega)).mp c9
    refine r_aload_n (pc := 12) C dX4_expectSort_12 rfl ?_
    refine r_iconst (pc := 13) C (1) dX4_expectSort_13 (by decide) ?_
    refine q_vVf (pc := 14) C kX4_104 dX4_expectSort_14 (c_X4_blame (a := nI 1)) (s_2 _) rfl rfl (Nat.le_of_ble_eq_true rfl) (by decide) ⟨by decide, by decide⟩ ?_
    refine r_goto (pc := 17) C 36 dX4_expectSort_17 (by decide) ?_
    refine r_iload_n (pc := 36) C dX4_expectSort_36 rfl ?_
    refine q_iret (pc := 37) C dX4_expectSort_37 rfl ?_
    rw [if_pos k0, if_pos k0]
    exact ⟨rfl, hA.blame (n := 1) (by omega) (by omega), agQ.bl⟩
set_option maxRecDepth 100000 in
set_option maxHeartbeats 4000000 in
theorem c_X4_append {G : GG} {kn : Nat} {f : MM} {q : Nat} (hq : q < 120) (eq : f 2 1 = nI q) {a : Int32} : CI G mX4_append 1 kn [.ref (G.1 + 2), .int a] f (nI (q + 1)) (u2 (u2 f 3 q a) 2 1 (nI (q + 1))) := by
  refine Ct.of [some (.ref (G.1 + 2)), some (.int a)] rfl (by decide +kernel) rfl (Nat.le_of_ble_eq_true rfl) rfl ?_
  intro X C
  refine r_aload_n (pc := 0) C dX4_append_0 rfl ?_
  refine r_getr (pc := 1) C fX4_11 dX4_append_1 (s_2 _) rfl rfl ?_
  refine r_aload_n (pc := 4) C dX4_append_4 rfl ?_
  refine r_get (pc := 5) C fX4_15 dX4_append_5 (s_2 _) rfl ?_
  refine r_iload_n (pc := 8) C dX4_append_8 rfl ?_
  refine q_iast (pc := 9) C q dX4_append_9 (s_3 _) (sn_3 _) eq (by omega) (by decide) ?_
  refine r_aload_n (pc := 10) C dX4_append_10 rfl ?_
  refine r_dup (pc := 11) C dX4_append_11 rfl ?_
  refine r_get (pc := 12) C fX4_15 dX4_append_12 (s_2 _) rfl ?_
  refine r_iconst (pc := 15) C (1) dX4_append_15 (by decide) ?_
  refine r_iadd (pc := 16) C dX4_append_16 ?_
  refine q_is (q + 1) (nI_addE (by simp [u2, eq]) rfl) ?_
  refine r_put (pc := 17) C fX4_15 ftX4_1 dX4_append_17 (s_2 _) rfl ?_
  refine r_aload_n (pc := 20) C dX4_append_20 rfl ?_
  refine r_get (pc := 21) C fX4_15 dX4_append_21 (s_2 _) rfl ?_
  refine q_iret (pc := 24) C dX4_append_24 rfl ?_
  exact ⟨by simp [u2], rfl⟩
