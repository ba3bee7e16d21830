/-! TEXTS: what a text says; the reference reads so -/
abbrev PR : Type := Nat × Nat × (Nat → Int32)
def isT (tp : Nat → Int32) (len p : Nat) (c : Int32) : Bool := decide (knd tp len p = 1 ∧ vl tp len p = c)
def tkS (tp : Nat → Int32) (len : Nat) (c : Int32) (s : PR) : PR := if s.1 = 0 then (if isT tp len s.2.1 c = true then (0, nx tp len s.2.1, s.2.2) else (1, s.2.1, s.2.2)) else s
def numS (tp : Nat → Int32) (len : Nat) (lo hi : Int32) (ix : Nat) (s : PR) : PR := if s.1 = 0 then (if knd tp len s.2.1 = 2 then (if lo ≤ vl tp len s.2.1 ∧ vl tp len s.2.1 ≤ hi then (0, nx tp len s.2.1, upd s.2.2 ix (vl tp len s.2.1)) else (2, s.2.1, s.2.2)) else (1, s.2.1, s.2.2)) else s
def ruleS (tp : Nat → Int32) (len : Nat) (s : PR) : PR := tkS tp len 59 (numS tp len 1 999 12 (tkS tp len 44 (numS tp len 0 30 11 (tkS tp len 44 (numS tp len 0 3 10 (tkS tp len 114 s))))))
def legsS (tp : Nat → Int32) (len : Nat) : Nat → Nat → PR → PR
  | 0, _, s => (1, s.2.1, s.2.2)
  | k + 1, n, s => if knd tp len s.2.1 = 2 then (if 1 ≤ vl tp len s.2.1 ∧ vl tp len s.2.1 ≤ 9 then (if n = 8 then (3, s.2.1, s.2.2) else
      (if isT tp len (nx tp len s.2.1) 44 = true then legsS tp len k (n + 1) (0, nx tp len (nx tp len s.2.1), upd (upd s.2.2 n (vl tp len s.2.1)) 8 (nI (n + 1)))
       else tkS tp len 59 (0, nx tp len s.2.1, upd (upd s.2.2 n (vl tp len s.2.1)) 8 (nI (n + 1))))) else (2, s.2.1, s.2.2)) else (1, s.2.1, s.2.2)
def sortK (c : Int32) : Nat := if c = 115 then 1 else if c = 113 then 2 else if c = 112 then 3 else if c = 111 then 4 else if c = 108 then 5 else 0
def kdS (tp : Nat → Int32) (len p : Nat) : Nat := if knd tp len p = 1 then sortK (vl tp len p) else 0
def setRd (ix : Nat) (v : Int32) (s : PR) : PR := (s.1, s.2.1, upd s.2.2 ix v)
def wkrS (tp : Nat → Int32) (len : Nat) (n : Nat) (s : PR) : PR := if kdS tp len s.2.1 = 0 then (1, s.2.1, s.2.2) else if n = 6 then (3, s.2.1, s.2.2) else
  tkS tp len 59 (setRd 13 (nI (n + 1)) (numS tp len 0 9 (26 + n) (tkS tp len 44 (numS tp len 1 20 (20 + n) (0, nx tp len s.2.1, upd s.2.2 (14 + n) (nI (kdS tp len s.2.1)))))))
def wksS (tp : Nat → Int32) (len : Nat) : Nat → Nat → PR → PR
  | 0, _, s => (1, s.2.1, s.2.2)
  | k + 1, n, s => if s.1 = 0 then (if knd tp len s.2.1 = 3 then s else wksS tp len k (n + 1) (wkrS tp len n s)) else s
def lruS (tp : Nat → Int32) (len : Nat) (rd : Nat → Int32) : PR := (fun s => if s.1 = 0 then ruleS tp len s else s) ((fun s => if s.1 = 0 then legsS tp len 9 0 s else s) (tkS tp len 119 (0, 0, rd)))
def parseS (tp : Nat → Int32) (len : Nat) (rd : Nat → Int32) : PR := wksS tp len 8 0 (lruS tp len rd)
def agR (f g : MM) : Prop := ∀ k b, ¬ (k = 85 ∧ 10 ≤ b ∧ b ≤ 14) → k ≠ 92 → g k b = f k b
theorem agR.rf {f : MM} : agR f f := fun _ _ _ _ => rfl
theorem agR.tr {f g h : MM} (h1 : agR f g) (h2 : agR g h) : agR f h := fun k b hk h9 => (h2 k b hk h9).trans (h1 k b hk h9)
theorem agT.toR {f g : MM} (h : agT f g) : agR f g := fun k b hk _ => h k b hk
theorem agR.put92 {f g : MM} (h : agR f g) {b : Nat} {v : Int32} : agR f (u2 g 92 b v) := fun k t hk h9 => by
  rw [← h k t hk h9]
  simp only [u2]
  rw [if_neg (fun q => h9 q.1)]
theorem agR.putT {f g : MM} (h : agR f g) {b : Nat} {v : Int32} (h1 : 10 ≤ b) (h2 : b ≤ 14) : agR f (u2 g 85 b v) := fun k t hk h9 => by
  rw [← h k t hk h9]
  simp only [u2]
  rw [if_neg (by omega)]
theorem agR.row {f g : MM} (h : agR f g) {k : Nat} (hk : k ≠ 85) (h9 : k ≠ 92) : g k = f k := by
  funext b
  exact h k b (fun q => hk q.1) h9
theorem AtR.put92 {tp : Nat → Int32} {len p : Nat} {g : MM} (h : AtR tp len g p) {b : Nat} {v : Int32} : AtR tp len (u2 g 92 b v) p := by
  obtain ⟨a1, a2, a3, a4, a5, a6, a7, a8, a9⟩ := h
  exact ⟨a1, by rw [u2_row (by decide)]; exact a2, by simp [u2, a3], a4, a5, by simp [u2, a6], by simp [u2, a7], fun z1 z2 => by simp [u2, a8 z1 z2], by simp [u2, a9]⟩
theorem u2_self {g : MM} {c b : Nat} {v : Int32} : u2 g c b v c = upd (g c) b v := by
  funext t
  simp [u2, upd]
/-- what the reference's reader says and does, by what the text says -/
def PoR (tp : Nat → Int32) (len : Nat) (f : MM) (s : PR) (v : Int32) (g : MM) : Prop := agR f g ∧ ((s.1 = 0 ∧ v = 1 ∧ AtR tp len g s.2.1 ∧ g 92 = s.2.2) ∨ (s.1 ≠ 0 ∧ v = 0 ∧ g 85 14 = nI s.1 ∧ g 85 13 = nI s.2.1))
theorem PoR.bad {tp : Nat → Int32} {len : Nat} {f g : MM} {s : PR} {n p : Nat} (h : agR f g) (hA : g 85 13 = nI p) (hs1 : s.1 = n) (hs2 : s.2.1 = p) (hn : n ≠ 0) : PoR tp len f s 0 (u2 g 85 14 (nI n)) :=
  ⟨h.putT (by decide) (by decide), Or.inr ⟨by rw [hs1]; exact hn, rfl, by simp [u2, hs1], by simp [u2, hs2, hA]⟩⟩
theorem AtR.at {tp : Nat → Int32} {len p : Nat} {g : MM} (h : AtR tp len g p) : g 85 13 = nI p := h.2.2.2.2.2.2.2.2
theorem AtR.kd {tp : Nat → Int32} {len p : Nat} {g : MM} (h : AtR tp len g p) : g 85 11 = nI (knd tp len p) := h.2.2.2.2.2.2.1
theorem AtR.eq {tp : Nat → Int32} {len p q : Nat} {g : MM} (h : AtR tp len g p) (e : q = p) : AtR tp len g q := e ▸ h
theorem knd_le {tp : Nat → Int32} {len p : Nat} : knd tp len p ≤ 3 := by unfold knd; split; omega; split; split <;> omega; split <;> omega
set_option maxRecDepth 100000 in
set_option maxHeartbeats 4000000 in
theorem c_X9_faults {G : GG} {kn : Nat} {f : MM} {a : Int32} : CI G mX9_faults 1 kn [.ref (G.1 + 85), .int a] f 0 (u2 f 85 14 a) := by
  refine Ct.of [some (.ref (G.1 + 85)), some (.int a)] rfl (by decide +kernel) rfl (Nat.le_of_ble_eq_true rfl) rfl ?_
  intro X C
  refine r_aload_n (pc := 0) C dX9_faults_0 rfl ?_
  refine r_iload_n (pc := 1) C dX9_faults_1 rfl ?_
  refine r_put (pc := 2) C fX9_117 ftX9_14 dX9_faults_2 (s_85 _) rfl ?_
  refine r_iconst (pc := 5) C (0) dX9_faults_5 (by decide) ?_
  refine q_zret (pc := 6) C dX9_faults_6 rfl (Or.inl rfl) ?_
  exact ⟨rfl, rfl⟩
set_option maxRecDepth 100000 in
set_option maxHeartbeats 4000000 in
theorem c_X9_takes {G : GG} {kn : Nat} {f : MM} {tp : Nat → Int32} {len p : Nat} {c : Int32} (hA : AtR tp len f p) : RI G mX9_takes 4 kn [.ref (G.1 + 85), .int c] f (fun v g => (isT tp len p c = true ∧ v = 1 ∧ AtR tp len g (nx tp len p) ∧ agT f g) ∨ (isT tp len p c = false ∧ v = 0 ∧ g = u2 f 85 14 (nI 1))) := by
  refine Ct.of [some (.ref (G.1 + 85)), some (.int c)] rfl (by decide +kernel) rfl (Nat.le_of_ble_eq_true rfl) rfl ?_
  intro X C
  have hk3 := knd_le (tp := tp) (len := len) (p := p)
  refine r_aload_n (pc := 0) C dX9_takes_0 rfl ?_
  refine r_get (pc := 1) C fX9_104 dX9_takes_1 (s_85 _) rfl ?_
  refine r_iconst (pc := 4) C (1) dX9_takes_4 (by decide) ?_
  refine q_ne (pc := 5) C (knd tp len p) 1 16 hA.kd rfl (by omega) (by omega) dX9_takes_5 (by decide) (fun c5 => ?_) (fun c5 => ?_)
  · refine r_aload_n (pc := 16) C dX9_takes_16 rfl ?_
    refine r_iconst (pc := 17) C (1) dX9_takes_17 (by decide) ?_
    refine q_vIf (pc := 18) C kX9_120 dX9_takes_18 (c_X9_faults) (s_85 _) rfl rfl (Nat.le_of_ble_eq_true rfl) (by decide) ⟨by decide, by decide⟩ ?_
    refine q_zret (pc := 21) C dX9_takes_21 rfl (Or.inl rfl) ?_
    exact Or.inr ⟨decide_eq_false (fun q => c5 q.1), rfl, rfl⟩
  · refine r_aload_n (pc := 8) C dX9_takes_8 rfl ?_
    refine r_get (pc := 9) C fX9_107 dX9_takes_9 (s_85 _) rfl ?_
    refine r_iload_n (pc := 12) C dX9_takes_12 rfl ?_
    refine r_icmp_eq (pc := 13) C 22 dX9_takes_13 (by decide) (fun c13 => ?_) (fun c13 => ?_)
    · refine r_aload_n (pc := 22) C dX9_takes_22 rfl ?_
      refine q_vV (pc := 23) C kX9_123 dX9_takes_23 (c_X9_nextToken hA.1 hA.2.1 hA.2.2.1 hA.2.2.2.2.2.1 hA.2.2.2.2.1) (s_85 _) rfl rfl (Nat.le_of_ble_eq_true rfl) (by decide) ⟨by decide, by decide⟩ ?_
      intro f23 h23
      refine r_iconst (pc := 26) C (1) dX9_takes_26 (by decide) ?_
      refine q_zret (pc := 27) C dX9_takes_27 rfl (Or.inr rfl) ?_
      exact Or.inl ⟨decide_eq_true ⟨c5, by rw [← hA.2.2.2.2.2.2.2.1 (by omega) (by omega)]; exact c13⟩, rfl, h23.1, h23.2⟩
    · refine r_aload_n (pc := 16) C dX9_takes_16 rfl ?_
      refine r_iconst (pc := 17) C (1) dX9_takes_17 (by decide) ?_
      refine q_vIf (pc := 18) C kX9_120 dX9_takes_18 (c_X9_faults) (s_85 _) rfl rfl (Nat.le_of_ble_eq_true rfl) (by decide) ⟨by decide, by decide⟩ ?_
      refine q_zret (pc := 21) C dX9_takes_21 rfl (Or.inl rfl) ?_
      exact Or.inr ⟨decide_eq_false (fun q => c13 (by rw [hA.2.2.2.2.2.2.2.1 (by omega) (by omega)]; exact q.2)), rfl, rfl⟩
set_option maxRecDepth 100000 in
set_option maxHeartbeats 4000000 in
theorem c_X9_isNumber {G : GG} {kn : Nat} {f : MM} {tp : Nat → Int32} {len p : Nat} {lo hi : Int32} (hA : AtR tp len f p) : RI G mX9_isNumber 2 kn [.ref (G.1 + 85), .int lo, .int hi] f (fun v g => (knd tp len p = 2 ∧ (lo ≤ vl tp len p ∧ vl tp len p ≤ hi) ∧ v = 1 ∧ g = f) ∨ (knd tp len p = 2 ∧ ¬ (lo ≤ vl tp len p ∧ vl tp len p ≤ hi) ∧ v = 0 ∧ g = u2 f 85 14 (nI 2)) ∨ (¬ knd tp len p = 2 ∧ v = 0 ∧ g = u2 f 85 14 (nI 1))) := by
  refine Ct.of [some (.ref (G.1 + 85)), some (.int lo), some (.int hi)] rfl (by decide +kernel) rfl (Nat.le_of_ble_eq_true rfl) rfl ?_
  intro X C
  have hk3 := knd_le (tp := tp) (len := len) (p := p)
  refine r_aload_n (pc := 0) C dX9_isNumber_0 rfl ?_
  refine r_get (pc := 1) C fX9_104 dX9_isNumber_1 (s_85 _) rfl ?_
  refine r_iconst (pc := 4) C (2) dX9_isNumber_4 (by decide) ?_
  refine q_ne (pc := 5) C (knd tp len p) 2 39 hA.kd rfl (by omega) (by omega) dX9_isNumber_5 (by decide) (fun c5 => ?_) (fun c5 => ?_)
  · refine r_aload_n (pc := 39) C dX9_isNumber_39 rfl ?_
    refine r_iconst (pc := 40) C (1) dX9_isNumber_40 (by decide) ?_
    refine q_vIf (pc := 41) C kX9_120 dX9_isNumber_41 (c_X9_faults) (s_85 _) rfl rfl (Nat.le_of_ble_eq_true rfl) (by decide) ⟨by decide, by decide⟩ ?_
    refine q_zret (pc := 44) C dX9_isNumber_44 rfl (by first | exact Or.inl rfl | exact Or.inr rfl) ?_
    exact Or.inr (Or.inr ⟨c5, rfl, rfl⟩)
  · refine r_aload_n (pc := 8) C dX9_isNumber_8 rfl ?_
    refine r_get (pc := 9) C fX9_107 dX9_isNumber_9 (s_85 _) rfl ?_
    refine r_i2l (pc := 12) C dX9_isNumber_12 ?_
    refine r_iload_n (pc := 13) C dX9_isNumber_13 rfl ?_
    refine r_i2l (pc := 14) C dX9_isNumber_14 ?_
    refine r_iload_n (pc := 15) C dX9_isNumber_15 rfl ?_
    refine r_i2l (pc := 16) C dX9_isNumber_16 ?_
    refine q_sIf (pc := 17) C kX9_66 dX9_isNumber_17 (c_X9_in (lo := lo) (hi := hi) rfl rfl) rfl rfl (Nat.le_of_ble_eq_true rfl) (by decide) ⟨by decide, by decide⟩ ?_
    refine r_if_ne (pc := 20) C 31 dX9_isNumber_20 (by decide) (fun c20 => ?_) (fun c20 => ?_)
    · replace c20 := b1_1 c20
      refine r_iconst (pc := 31) C (1) dX9_isNumber_31 (by decide) ?_
      refine r_goto (pc := 32) C 44 dX9_isNumber_32 (by decide) ?_
      refine q_zret (pc := 44) C dX9_isNumber_44 rfl (by first | exact Or.inl rfl | exact Or.inr rfl) ?_
      refine Or.inl ⟨c5, ?_, rfl, rfl⟩
      rw [← hA.2.2.2.2.2.2.2.1 (by omega) (by omega)]
      exact of_decide_eq_true c20
    · replace c20 := b1_0 c20
      refine r_aload_n (pc := 23) C dX9_isNumber_23 rfl ?_
      refine r_iconst (pc := 24) C (2) dX9_isNumber_24 (by decide) ?_
      refine q_vIf (pc := 25) C kX9_120 dX9_isNumber_25 (c_X9_faults) (s_85 _) rfl rfl (Nat.le_of_ble_eq_true rfl) (by decide) ⟨by decide, by decide⟩ ?_
      refine r_if_eq (pc := 28) C 35 dX9_isNumber_28 (by decide) (fun c28 => ?_) (fun c28 => ?_)
      · refine r_iconst (pc := 35) C (0) dX9_isNumber_35 (by decide) ?_
        refine r_goto (pc := 36) C 44 dX9_isNumber_36 (by decide) ?_
        refine q_zret (pc := 44) C dX9_isNumber_44 rfl (by first | exact Or.inl rfl | exact Or.inr rfl) ?_
        refine Or.inr (Or.inl ⟨c5, ?_, rfl, rfl⟩)
        rw [← hA.2.2.2.2.2.2.2.1 (by omega) (by omega)]
        exact of_decide_eq_false c20
      · exact absurd rfl c28
set_option maxRecDepth 100000 in
set_option maxHeartbeats 4000000 in
theorem c_X9_taken {G : GG} {kn : Nat} {f : MM} {tp : Nat → Int32} {len p : Nat} (hA : AtR tp len f p) (hk : knd tp len p = 2) : RI G mX9_taken 4 kn [.ref (G.1 + 85)] f (fun v g => v = vl tp len p ∧ AtR tp len g (nx tp len p) ∧ agT f g) := by
  refine Ct.of [some (.ref (G.1 + 85)), none] rfl (by decide +kernel) rfl (Nat.le_of_ble_eq_true rfl) rfl ?_
  intro X C
  refine r_aload_n (pc := 0) C dX9_taken_0 rfl ?_
  refine r_get (pc := 1) C fX9_107 dX9_taken_1 (s_85 _) rfl ?_
  refine r_istore_n (pc := 4) C dX9_taken_4 (by decide) rfl ?_
  refine r_aload_n (pc := 5) C dX9_taken_5 rfl ?_
  refine q_vV (pc := 6) C kX9_123 dX9_taken_6 (c_X9_nextToken hA.1 hA.2.1 hA.2.2.1 hA.2.2.2.2.2.1 hA.2.2.2.2.1) (s_85 _) rfl rfl (Nat.le_of_ble_eq_true rfl) (by decide) ⟨by decide, by decide⟩ ?_
  intro f6 h6
  refine r_iload_n (pc := 9) C dX9_taken_9 rfl ?_
  refine q_iret (pc := 10) C dX9_taken_10 rfl ?_
  exact ⟨hA.2.2.2.2.2.2.2.1 (by omega) (by omega), h6.1, h6.2⟩
set_option maxRecDepth 100000 in
set_option maxHeartbeats 4000000 in
theorem c_X9_readRule {G : GG} {kn : Nat} {f : MM} {tp : Nat → Int32} {len p : Nat} {rd : Nat → Int32} (hA : AtR tp len f p) (h92 : f 92 = rd) : RI G mX9_readRule 5 kn [.ref (G.1 + 85)] f (fun v g => PoR tp len f (ruleS tp len (0, p, rd)) v g) := by
  refine Ct.of [some (.ref (G.1 + 85))] rfl (by decide +kernel) rfl (Nat.le_of_ble_eq_true rfl) rfl ?_
  intro X C
  refine r_aload_n (pc := 0) C dX9_readRule_0 rfl ?_
  refine r_bipush (pc := 1) C (114) dX9_readRule_1 (by decide) ?_
  refine q_vI (pc := 3) C kX9_126 dX9_readRule_3 (c_X9_takes hA) (s_85 _) rfl rfl (Nat.le_of_ble_eq_true rfl) (by decide) ⟨by decide, by decide⟩ ?_
  intro v3 f3 h3
  rcases h3 with ⟨e3, rfl, A3, t3⟩ | ⟨e3, rfl, rfl⟩
  · skip
    have F3 : agR f f3 := (agR.rf (f := f)).tr t3.toR
    have R3 := (t3.row (by decide : 92 ≠ 85)).trans h92
    refine r_if_eq (pc := 6) C 18 dX9_readRule_6 (by decide) (fun c6 => ?_) (fun c6 => ?_)
    · exact absurd c6 (by decide)
    · refine r_aload_n (pc := 9) C dX9_readRule_9 rfl ?_
      refine r_iconst (pc := 10) C (0) dX9_readRule_10 (by decide) ?_
      refine r_iconst (pc := 11) C (3) dX9_readRule_11 (by decide) ?_
      refine q_vI (pc := 12) C kX9_129 dX9_readRule_12 (c_X9_isNumber A3) (s_85 _) rfl rfl (Nat.le_of_ble_eq_true rfl) (by decide) ⟨by decide, by decide⟩ ?_
      intro v12 f12 h12
      rcases h12 with ⟨k12, e12, rfl, rfl⟩ | ⟨k12, e12, rfl, rfl⟩ | ⟨k12, rfl, rfl⟩
      · skip
        refine r_if_ne (pc := 15) C 20 dX9_readRule_15 (by decide) (fun c15 => ?_) (fun c15 => ?_)
        · refine r_aload_n (pc := 20) C dX9_readRule_20 rfl ?_
          refine r_getr (pc := 21) C fX9_28 dX9_readRule_21 (s_85 _) rfl rfl ?_
          refine r_bipush (pc := 24) C (10) dX9_readRule_24 (by decide) ?_
          refine r_aload_n (pc := 26) C dX9_readRule_26 rfl ?_
          refine q_vI (pc := 27) C kX9_133 dX9_readRule_27 (c_X9_taken A3 k12) (s_85 _) rfl rfl (Nat.le_of_ble_eq_true rfl) (by decide) ⟨by decide, by decide⟩ ?_
          intro v27 f27 h27
          obtain ⟨rfl, A27, t27⟩ := h27
          have F27 : agR f f27 := F3.tr t27.toR
          have R27 := (t27.row (by decide : 92 ≠ 85)).trans R3
          refine q_iast (pc := 30) C 10 dX9_readRule_30 (s_92 _) (sn_92 _) rfl (by omega) (by decide) ?_
          have B30 := A27.put92 (b := 10) (v := vl tp len (nx tp len p))
          have F30 := F27.put92 (b := 10) (v := vl tp len (nx tp len p))
          have R30 := (u2_self (g := f27) (c := 92) (b := 10) (v := vl tp len (nx tp len p))).trans (congrArg (fun q => upd q 10 (vl tp len (nx tp len p))) R27)
          refine r_aload_n (pc := 31) C dX9_readRule_31 rfl ?_
          refine r_bipush (pc := 32) C (44) dX9_readRule_32 (by decide) ?_
          refine q_vI (pc := 34) C kX9_126 dX9_readRule_34 (c_X9_takes B30) (s_85 _) rfl rfl (Nat.le_of_ble_eq_true rfl) (by decide) ⟨by decide, by decide⟩ ?_
          intro v34 f34 h34
          rcases h34 with ⟨e34, rfl, A34, t34⟩ | ⟨e34, rfl, rfl⟩
          · skip
            have F34 : agR f f34 := F30.tr t34.toR
            have R34 := (t34.row (by decide : 92 ≠ 85)).trans R30
            refine r_if_eq (pc := 37) C 50 dX9_readRule_37 (by decide) (fun c37 => ?_) (fun c37 => ?_)
            · exact absurd c37 (by decide)
            · refine r_aload_n (pc := 40) C dX9_readRule_40 rfl ?_
              refine r_iconst (pc := 41) C (0) dX9_readRule_41 (by decide) ?_
              refine r_bipush (pc := 42) C (30) dX9_readRule_42 (by decide) ?_
              refine q_vI (pc := 44) C kX9_129 dX9_readRule_44 (c_X9_isNumber A34) (s_85 _) rfl rfl (Nat.le_of_ble_eq_true rfl) (by decide) ⟨by decide, by decide⟩ ?_
              intro v44 f44 h44
              rcases h44 with ⟨k44, e44, rfl, rfl⟩ | ⟨k44, e44, rfl, rfl⟩ | ⟨k44, rfl, rfl⟩
              · skip
                refine r_if_ne (pc := 47) C 52 dX9_readRule_47 (by decide) (fun c47 => ?_) (fun c47 => ?_)
                · refine r_aload_n (pc := 52) C dX9_readRule_52 rfl ?_
                  refine r_getr (pc := 53) C fX9_28 dX9_readRule_53 (s_85 _) rfl rfl ?_
                  refine r_bipush (pc := 56) C (11) dX9_readRule_56 (by decide) ?_
                  refine r_aload_n (pc := 58) C dX9_readRule_58 rfl ?_
                  refine q_vI (pc := 59) C kX9_133 dX9_readRule_59 (c_X9_taken A34 k44) (s_85 _) rfl rfl (Nat.le_of_ble_eq_true rfl) (by decide) ⟨by decide, by decide⟩ ?_
                  intro v59 f59 h59
                  obtain ⟨rfl, A59, t59⟩ := h59
                  have F59 : agR f f59 := F34.tr t59.toR
                  have R59 := (t59.row (by decide : 92 ≠ 85)).trans R34
                  refine q_iast (pc := 62) C 11 dX9_readRule_62 (s_92 _) (sn_92 _) rfl (by omega) (by decide) ?_
                  have B62 := A59.put92 (b := 11) (v := vl tp len (nx tp len (nx tp len (nx tp len p))))
                  have F62 := F59.put92 (b := 11) (v := vl tp len (nx tp len (nx tp len (nx tp len p))))
                  have R62 := (u2_self (g := f59) (c := 92) (b := 11) (v := vl tp len (nx tp len (nx tp len (nx tp len p))))).trans (congrArg (fun q => upd q 11 (vl tp len (nx tp len (nx tp len (nx tp len p))))) R59)
                  refine r_aload_n (pc := 63) C dX9_readRule_63 rfl ?_
                  refine r_bipush (pc := 64) C (44) dX9_readRule_64 (by decide) ?_
                  refine q_vI (pc := 66) C kX9_126 dX9_readRule_66 (c_X9_takes B62) (s_85 _) rfl rfl (Nat.le_of_ble_eq_true rfl) (by decide) ⟨by decide, by decide⟩ ?_
                  intro v66 f66 h66
                  rcases h66 with ⟨e66, rfl, A66, t66⟩ | ⟨e66, rfl, rfl⟩
                  · skip
                    have F66 : agR f f66 := F62.tr t66.toR
                    have R66 := (t66.row (by decide : 92 ≠ 85)).trans R62
                    refine r_if_eq (pc := 69) C 83 dX9_readRule_69 (by decide) (fun c69 => ?_) (fun c69 => ?_)
                    · exact absurd c69 (by decide)
                    · refine r_aload_n (pc := 72) C dX9_readRule_72 rfl ?_
                      refine r_iconst (pc := 73) C (1) dX9_readRule_73 (by decide) ?_
                      refine r_sipush (pc := 74) C (999) dX9_readRule_74 (by decide) ?_
                      refine q_vI (pc := 77) C kX9_129 dX9_readRule_77 (c_X9_isNumber A66) (s_85 _) rfl rfl (Nat.le_of_ble_eq_true rfl) (by decide) ⟨by decide, by decide⟩ ?_
                      intro v77 f77 h77
                      rcases h77 with ⟨k77, e77, rfl, rfl⟩ | ⟨k77, e77, rfl, rfl⟩ | ⟨k77, rfl, rfl⟩
                      · skip
                        refine r_if_ne (pc := 80) C 85 dX9_readRule_80 (by decide) (fun c80 => ?_) (fun c80 => ?_)
                        · refine r_aload_n (pc := 85) C dX9_readRule_85 rfl ?_
                          refine r_getr (pc := 86) C fX9_28 dX9_readRule_86 (s_85 _) rfl rfl ?_
                          refine r_bipush (pc := 89) C (12) dX9_readRule_89 (by decide) ?_
                          refine r_aload_n (pc := 91) C dX9_readRule_91 rfl ?_
                          refine q_vI (pc := 92) C kX9_133 dX9_readRule_92 (c_X9_taken A66 k77) (s_85 _) rfl rfl (Nat.le_of_ble_eq_true rfl) (by decide) ⟨by decide, by decide⟩ ?_
                          intro v92 f92 h92
                          obtain ⟨rfl, A92, t92⟩ := h92
                          have F92 : agR f f92 := F66.tr t92.toR
                          have R92 := (t92.row (by decide : 92 ≠ 85)).trans R66
                          refine q_iast (pc := 95) C 12 dX9_readRule_95 (s_92 _) (sn_92 _) rfl (by omega) (by decide) ?_
                          have B95 := A92.put92 (b := 12) (v := vl tp len (nx tp len (nx tp len (nx tp len (nx tp len (nx tp len p))))))
                          have F95 := F92.put92 (b := 12) (v := vl tp len (nx tp len (nx tp len (nx tp len (nx tp len (nx tp len p))))))
                          have R95 := (u2_self (g := f92) (c := 92) (b := 12) (v := vl tp len (nx tp len (nx tp len (nx tp len (nx tp len (nx tp len p))))))).trans (congrArg (fun q => upd q 12 (vl tp len (nx tp len (nx tp len (nx tp len (nx tp len (nx tp len p))))))) R92)
                          refine r_aload_n (pc := 96) C dX9_readRule_96 rfl ?_
                          refine r_bipush (pc := 97) C (59) dX9_readRule_97 (by decide) ?_
                          refine q_vI (pc := 99) C kX9_126 dX9_readRule_99 (c_X9_takes B95) (s_85 _) rfl rfl (Nat.le_of_ble_eq_true rfl) (by decide) ⟨by decide, by decide⟩ ?_
                          intro v99 f99 h99
                          rcases h99 with ⟨e99, rfl, A99, t99⟩ | ⟨e99, rfl, rfl⟩
                          · skip
                            have F99 : agR f f99 := F95.tr t99.toR
                            have R99 := (t99.row (by decide : 92 ≠ 85)).trans R95
                            refine q_zret (pc := 102) C dX9_readRule_102 rfl (by first | exact Or.inl rfl | exact Or.inr rfl) ?_
                            refine ⟨F99, Or.inl ⟨?_, rfl, ?_, ?_⟩⟩
                            · simp [ruleS, tkS, numS, e3, k12, e12, e34, k44, e44, e66, k77, e77, e99]
                            · exact A99.eq (by simp [ruleS, tkS, numS, e3, k12, e12, e34, k44, e44, e66, k77, e77, e99])
                            · rw [R99]; simp [ruleS, tkS, numS, e3, k12, e12, e34, k44, e44, e66, k77, e77, e99]
                          · skip
                            refine q_zret (pc := 102) C dX9_readRule_102 rfl (by first | exact Or.inl rfl | exact Or.inr rfl) ?_
                            exact PoR.bad F95 B95.at (by simp [ruleS, tkS, numS, e3, k12, e12, e34, k44, e44, e66, k77, e77, e99]) (by simp [ruleS, tkS, numS, e3, k12, e12, e34, k44, e44, e66, k77, e77, e99]) (by decide)
                        · exact absurd c80 (by decide)
                      · skip
                        refine r_if_ne (pc := 80) C 85 dX9_readRule_80 (by decide) (fun c80 => ?_) (fun c80 => ?_)
                        · exact absurd rfl c80
                        · refine r_iconst (pc := 83) C (0) dX9_readRule_83 (by decide) ?_
                          refine q_zret (pc := 84) C dX9_readRule_84 rfl (Or.inl rfl) ?_
                          exact PoR.bad F66 A66.at (by simp [ruleS, tkS, numS, e3, k12, e12, e34, k44, e44, e66, k77, e77]) (by simp [ruleS, tkS, numS, e3, k12, e12, e34, k44, e44, e66, k77, e77]) (by decide)
                      · skip
                        refine r_if_ne (pc := 80) C 85 dX9_readRule_80 (by decide) (fun c80 => ?_) (fun c80 => ?_)
                        · exact absurd rfl c80
                        · refine r_iconst (pc := 83) C (0) dX9_readRule_83 (by decide) ?_
                          refine q_zret (pc := 84) C dX9_readRule_84 rfl (Or.inl rfl) ?_
                          exact PoR.bad F66 A66.at (by simp [ruleS, tkS, numS, e3, k12, e12, e34, k44, e44, e66, k77]) (by simp [ruleS, tkS, numS, e3, k12, e12, e34, k44, e44, e66, k77]) (by decide)
                  · skip
                    refine r_if_eq (pc := 69) C 83 dX9_readRule_69 (by decide) (fun c69 => ?_) (fun c69 => ?_)
                    · refine r_iconst (pc := 83) C (0) dX9_readRule_83 (by decide) ?_
                      refine q_zret (pc := 84) C dX9_readRule_84 rfl (Or.inl rfl) ?_
                      exact PoR.bad F62 B62.at (by simp [ruleS, tkS, numS, e3, k12, e12, e34, k44, e44, e66]) (by simp [ruleS, tkS, numS, e3, k12, e12, e34, k44, e44, e66]) (by decide)
                    · exact absurd rfl c69
                · exact absurd c47 (by decide)
              · skip
                refine r_if_ne (pc := 47) C 52 dX9_readRule_47 (by decide) (fun c47 => ?_) (fun c47 => ?_)
                · exact absurd rfl c47
                · refine r_iconst (pc := 50) C (0) dX9_readRule_50 (by decide) ?_
                  refine q_zret (pc := 51) C dX9_readRule_51 rfl (Or.inl rfl) ?_
                  exact PoR.bad F34 A34.at (by simp [ruleS, tkS, numS, e3, k12, e12, e34, k44, e44]) (by simp [ruleS, tkS, numS, e3, k12, e12, e34, k44, e44]) (by decide)
              · skip
                refine r_if_ne (pc := 47) C 52 dX9_readRule_47 (by decide) (fun c47 => ?_) (fun c47 => ?_)
                · exact absurd rfl c47
                · refine r_iconst (pc := 50) C (0) dX9_readRule_50 (by decide) ?_
                  refine q_zret (pc := 51) C dX9_readRule_51 rfl (Or.inl rfl) ?_
                  exact PoR.bad F34 A34.at (by simp [ruleS, tkS, numS, e3, k12, e12, e34, k44]) (by simp [ruleS, tkS, numS, e3, k12, e12, e34, k44]) (by decide)
          · skip
            refine r_if_eq (pc := 37) C 50 dX9_readRule_37 (by decide) (fun c37 => ?_) (fun c37 => ?_)
            · refine r_iconst (pc := 50) C (0) dX9_readRule_50 (by decide) ?_
              refine q_zret (pc := 51) C dX9_readRule_51 rfl (Or.inl rfl) ?_
              exact PoR.bad F30 B30.at (by simp [ruleS, tkS, numS, e3, k12, e12, e34]) (by simp [ruleS, tkS, numS, e3, k12, e12, e34]) (by decide)
            · exact absurd rfl c37
        · exact absurd c15 (by decide)
      · skip
        refine r_if_ne (pc := 15) C 20 dX9_readRule_15 (by decide) (fun c15 => ?_) (fun c15 => ?_)
        · exact absurd rfl c15
        · refine r_iconst (pc := 18) C (0) dX9_readRule_18 (by decide) ?_
          refine q_zret (pc := 19) C dX9_readRule_19 rfl (Or.inl rfl) ?_
          exact PoR.bad F3 A3.at (by simp [ruleS, tkS, numS, e3, k12, e12]) (by simp [ruleS, tkS, numS, e3, k12, e12]) (by decide)
      · skip
        refine r_if_ne (pc := 15) C 20 dX9_readRule_15 (by decide) (fun c15 => ?_) (fun c15 => ?_)
        · exact absurd rfl c15
        · refine r_iconst (pc := 18) C (0) dX9_readRule_18 (by decide) ?_
          refine q_zret (pc := 19) C dX9_readRule_19 rfl (Or.inl rfl) ?_
          exact PoR.bad F3 A3.at (by simp [ruleS, tkS, numS, e3, k12]) (by simp [ruleS, tkS, numS, e3, k12]) (by decide)
  · skip
    refine r_if_eq (pc := 6) C 18 dX9_readRule_6 (by decide) (fun c6 => ?_) (fun c6 => ?_)
    · refine r_iconst (pc := 18) C (0) dX9_readRule_18 (by decide) ?_
      refine q_zret (pc := 19) C dX9_readRule_19 rfl (Or.inl rfl) ?_
      exact PoR.bad (agR.rf (f := f)) hA.at (by simp [ruleS, tkS, numS, e3]) (by simp [ruleS, tkS, numS, e3]) (by decide)
    · exact absurd rfl c6
set_option maxRecDepth 100000 in
set_option maxHeartbeats 4000000 in
theorem l_readLegs {X : XT} {G : GG} {kn : Nat} {f : MM} {tp : Nat → Int32} {len : Nat} {S0 : PR} (C : Cx X G mX9_readLegs 5 0 0 (NN kn)) : ∀ (k n p : Nat) (rd : Nat → Int32) (g : MM), n + k = 9 → n ≤ 8 → AtR tp len g p → g 92 = rd → rd 8 = nI n → agR f g → legsS tp len k n (0, p, rd) = S0 → Vw X G mX9_readLegs.2.2.2.1 0 0 (QQ X G (pI kn (fun v g => PoR tp len f S0 v g)) 0 0) (NN kn) (shF kn) g 13 [some (.ref (G.1 + 85)), some (.int 1)] [] := by
  intro k
  induction k with
  | zero => intro n p rd g h1 h2; exact absurd h1 (by omega)
  | succ k ih =>
    intro n p rd g hk hn hA hR h8 hF hS
    refine r_iload_n (pc := 13) C dX9_readLegs_13 rfl ?_
    refine r_if_eq (pc := 14) C 111 dX9_readLegs_14 (by decide) (fun c14 => ?_) (fun c14 => ?_)
    · exact absurd c14 (by decide)
    · refine r_aload_n (pc := 17) C dX9_readLegs_17 rfl ?_
      refine r_iconst (pc := 18) C (1) dX9_readLegs_18 (by decide) ?_
      refine r_bipush (pc := 19) C (9) dX9_readLegs_19 (by decide) ?_
      refine q_vI (pc := 21) C kX9_129 dX9_readLegs_21 (c_X9_isNumber hA) (s_85 _) rfl rfl (Nat.le_of_ble_eq_true rfl) (by decide) ⟨by decide, by decide⟩ ?_
      intro v21 f21 h21
      rcases h21 with ⟨k21, e21, rfl, rfl⟩ | ⟨k21, e21, rfl, rfl⟩ | ⟨k21, rfl, rfl⟩
      · skip
        refine r_if_eq (pc := 24) C 47 dX9_readLegs_24 (by decide) (fun c24 => ?_) (fun c24 => ?_)
        · exact absurd c24 (by decide)
        · refine r_aload_n (pc := 27) C dX9_readLegs_27 rfl ?_
          refine r_getr (pc := 28) C fX9_28 dX9_readLegs_28 (s_85 _) rfl rfl ?_
          refine r_bipush (pc := 31) C (8) dX9_readLegs_31 (by decide) ?_
          refine q_iald (pc := 33) C 8 dX9_readLegs_33 (s_92 _) (sn_92 _) rfl (by omega) (by decide) ?_
          refine r_bipush (pc := 34) C (8) dX9_readLegs_34 (by decide) ?_
          refine q_ne (pc := 36) C n 8 49 (by rw [hR]; exact h8) rfl (by omega) (by omega) dX9_readLegs_36 (by decide) (fun c36 => ?_) (fun c36 => ?_)
          · have hn8 : ¬ n = 8 := c36
            refine r_aload_n (pc := 49) C dX9_readLegs_49 rfl ?_
            refine r_getr (pc := 50) C fX9_28 dX9_readLegs_50 (s_85 _) rfl rfl ?_
            refine r_aload_n (pc := 53) C dX9_readLegs_53 rfl ?_
            refine r_getr (pc := 54) C fX9_28 dX9_readLegs_54 (s_85 _) rfl rfl ?_
            refine r_bipush (pc := 57) C (8) dX9_readLegs_57 (by decide) ?_
            refine q_iald (pc := 59) C 8 dX9_readLegs_59 (s_92 _) (sn_92 _) rfl (by omega) (by decide) ?_
            refine r_aload_n (pc := 60) C dX9_readLegs_60 rfl ?_
            refine q_vI (pc := 61) C kX9_133 dX9_readLegs_61 (c_X9_taken hA k21) (s_85 _) rfl rfl (Nat.le_of_ble_eq_true rfl) (by decide) ⟨by decide, by decide⟩ ?_
            intro v61 f61 h61
            obtain ⟨rfl, A61, t61⟩ := h61
            have F61 : agR f f61 := hF.tr t61.toR
            have R61 := (t61.row (by decide : 92 ≠ 85)).trans hR
            refine q_iast (pc := 64) C n dX9_readLegs_64 (s_92 _) (sn_92 _) (by rw [hR]; exact h8) (by omega) (by decide) ?_
            refine r_aload_n (pc := 65) C dX9_readLegs_65 rfl ?_
            refine r_getr (pc := 66) C fX9_28 dX9_readLegs_66 (s_85 _) rfl rfl ?_
            refine r_bipush (pc := 69) C (8) dX9_readLegs_69 (by decide) ?_
            refine r_dup2 (pc := 71) C dX9_readLegs_71 rfl rfl ?_
            refine q_iald (pc := 72) C 8 dX9_readLegs_72 (s_92 _) (sn_92 _) rfl (by omega) (by decide) ?_
            refine q_val (nI n) ?_ ?_
            · rw [u2_self, R61]; simp [upd, show ¬ 8 = n by omega]; exact h8
            refine r_iconst (pc := 73) C (1) dX9_readLegs_73 (by decide) ?_
            refine r_iadd (pc := 74) C dX9_readLegs_74 ?_
            refine q_is (n + 1) (nI_1 n) ?_
            refine q_iast (pc := 75) C 8 dX9_readLegs_75 (s_92 _) (sn_92 _) rfl (by omega) (by decide) ?_
            have B75 := (A61.put92 (b := n) (v := vl tp len p)).put92 (b := 8) (v := nI (n + 1))
            have F75 := (F61.put92 (b := n) (v := vl tp len p)).put92 (b := 8) (v := nI (n + 1))
            have R75 : u2 (u2 f61 92 n (vl tp len p)) 92 8 (nI (n + 1)) 92 = upd (upd rd n (vl tp len p)) 8 (nI (n + 1)) := by rw [u2_self, u2_self, R61]
            have hk3 := knd_le (tp := tp) (len := len) (p := nx tp len p)
            refine r_aload_n (pc := 76) C dX9_readLegs_76 rfl ?_
            refine r_get (pc := 77) C fX9_104 dX9_readLegs_77 (s_85 _) rfl ?_
            refine r_iconst (pc := 80) C (1) dX9_readLegs_80 (by decide) ?_
            refine q_ne (pc := 81) C (knd tp len (nx tp len p)) 1 106 B75.kd rfl (by omega) (by omega) dX9_readLegs_81 (by decide) (fun c81 => ?_) (fun c81 => ?_)
            · have i44 : isT tp len (nx tp len p) 44 = false := decide_eq_false (fun q => c81 q.1)
              refine r_iconst (pc := 106) C (0) dX9_readLegs_106 (by decide) ?_
              refine r_istore_n (pc := 107) C dX9_readLegs_107 (by decide) rfl ?_
              refine r_goto (pc := 108) C 13 dX9_readLegs_108 (by decide) ?_
              refine r_iload_n (pc := 13) C dX9_readLegs_13 rfl ?_
              refine r_if_eq (pc := 14) C 111 dX9_readLegs_14 (by decide) (fun c14 => ?_) (fun c14 => ?_)
              · refine r_aload_n (pc := 111) C dX9_readLegs_111 rfl ?_
                refine r_bipush (pc := 112) C (59) dX9_readLegs_112 (by decide) ?_
                refine q_vI (pc := 114) C kX9_126 dX9_readLegs_114 (c_X9_takes B75) (s_85 _) rfl rfl (Nat.le_of_ble_eq_true rfl) (by decide) ⟨by decide, by decide⟩ ?_
                intro v114 f114 h114
                rcases h114 with ⟨e114, rfl, A114, t114⟩ | ⟨e114, rfl, rfl⟩
                · skip
                  have F114 := F75.tr t114.toR
                  have R114 := (t114.row (by decide : 92 ≠ 85)).trans R75
                  refine q_zret (pc := 117) C dX9_readLegs_117 rfl (by first | exact Or.inl rfl | exact Or.inr rfl) ?_
                  refine ⟨F114, Or.inl ⟨?_, rfl, ?_, ?_⟩⟩
                  · rw [← hS]; simp [legsS, tkS, k21, e21, hn8, i44, e114]
                  · exact A114.eq (by rw [← hS]; simp [legsS, tkS, k21, e21, hn8, i44, e114])
                  · rw [R114, ← hS]; simp [legsS, tkS, k21, e21, hn8, i44, e114]
                · skip
                  refine q_zret (pc := 117) C dX9_readLegs_117 rfl (by first | exact Or.inl rfl | exact Or.inr rfl) ?_
                  exact PoR.bad F75 B75.at (by rw [← hS]; simp [legsS, tkS, k21, e21, hn8, i44, e114]) (by rw [← hS]; simp [legsS, tkS, k21, e21, hn8, i44, e114]) (by decide)
              · exact absurd rfl c14
            · refine r_aload_n (pc := 84) C dX9_readLegs_84 rfl ?_
              refine r_get (pc := 85) C fX9_107 dX9_readLegs_85 (s_85 _) rfl ?_
              refine r_bipush (pc := 88) C (44) dX9_readLegs_88 (by decide) ?_
              refine r_icmp_ne (pc := 90) C 106 dX9_readLegs_90 (by decide) (fun c90 => ?_) (fun c90 => ?_)
              · have i44 : isT tp len (nx tp len p) 44 = false := decide_eq_false (fun q => c90 (by rw [B75.2.2.2.2.2.2.2.1 (by omega) (by omega)]; exact q.2))
                refine r_iconst (pc := 106) C (0) dX9_readLegs_106 (by decide) ?_
                refine r_istore_n (pc := 107) C dX9_readLegs_107 (by decide) rfl ?_
                refine r_goto (pc := 108) C 13 dX9_readLegs_108 (by decide) ?_
                refine r_iload_n (pc := 13) C dX9_readLegs_13 rfl ?_
                refine r_if_eq (pc := 14) C 111 dX9_readLegs_14 (by decide) (fun c14 => ?_) (fun c14 => ?_)
                · refine r_aload_n (pc := 111) C dX9_readLegs_111 rfl ?_
                  refine r_bipush (pc := 112) C (59) dX9_readLegs_112 (by decide) ?_
                  refine q_vI (pc := 114) C kX9_126 dX9_readLegs_114 (c_X9_takes B75) (s_85 _) rfl rfl (Nat.le_of_ble_eq_true rfl) (by decide) ⟨by decide, by decide⟩ ?_
                  intro v114 f114 h114
                  rcases h114 with ⟨e114, rfl, A114, t114⟩ | ⟨e114, rfl, rfl⟩
                  · skip
                    have F114 := F75.tr t114.toR
                    have R114 := (t114.row (by decide : 92 ≠ 85)).trans R75
                    refine q_zret (pc := 117) C dX9_readLegs_117 rfl (by first | exact Or.inl rfl | exact Or.inr rfl) ?_
                    refine ⟨F114, Or.inl ⟨?_, rfl, ?_, ?_⟩⟩
                    · rw [← hS]; simp [legsS, tkS, k21, e21, hn8, i44, e114]
                    · exact A114.eq (by rw [← hS]; simp [legsS, tkS, k21, e21, hn8, i44, e114])
                    · rw [R114, ← hS]; simp [legsS, tkS, k21, e21, hn8, i44, e114]
                  · skip
                    refine q_zret (pc := 117) C dX9_readLegs_117 rfl (by first | exact Or.inl rfl | exact Or.inr rfl) ?_
                    exact PoR.bad F75 B75.at (by rw [← hS]; simp [legsS, tkS, k21, e21, hn8, i44, e114]) (by rw [← hS]; simp [legsS, tkS, k21, e21, hn8, i44, e114]) (by decide)
                · exact absurd rfl c14
              · have i44 : isT tp len (nx tp len p) 44 = true := decide_eq_true ⟨c81, by rw [← B75.2.2.2.2.2.2.2.1 (by omega) (by omega)]; exact c90⟩
                refine r_aload_n (pc := 93) C dX9_readLegs_93 rfl ?_
                refine r_bipush (pc := 94) C (44) dX9_readLegs_94 (by decide) ?_
                refine q_vI (pc := 96) C kX9_126 dX9_readLegs_96 (c_X9_takes B75) (s_85 _) rfl rfl (Nat.le_of_ble_eq_true rfl) (by decide) ⟨by decide, by decide⟩ ?_
                intro v96 f96 h96
                rcases h96 with ⟨e96, rfl, A96, t96⟩ | ⟨e96, rfl, rfl⟩
                · skip
                  have F96 := F75.tr t96.toR
                  have R96 := (t96.row (by decide : 92 ≠ 85)).trans R75
                  refine r_if_eq (pc := 99) C 106 dX9_readLegs_99 (by decide) (fun c99 => ?_) (fun c99 => ?_)
                  · exact absurd c99 (by decide)
                  · refine r_iconst (pc := 102) C (1) dX9_readLegs_102 (by decide) ?_
                    refine r_goto (pc := 103) C 107 dX9_readLegs_103 (by decide) ?_
                    refine r_istore_n (pc := 107) C dX9_readLegs_107 (by decide) rfl ?_
                    refine r_goto (pc := 108) C 13 dX9_readLegs_108 (by decide) ?_
                    refine ih (n + 1) (nx tp len (nx tp len p)) _ _ (by omega) (by omega) A96 R96 (by simp [upd]) F96 ?_
                    rw [← hS]
                    simp [legsS, tkS, k21, e21, hn8, i44, e96]
                · skip
                  rw [i44] at e96
                  exact absurd e96 (by decide)
          · have hn8 : n = 8 := c36
            refine r_aload_n (pc := 39) C dX9_readLegs_39 rfl ?_
            refine r_iconst (pc := 40) C (3) dX9_readLegs_40 (by decide) ?_
            refine q_vIf (pc := 41) C kX9_120 dX9_readLegs_41 (c_X9_faults) (s_85 _) rfl rfl (Nat.le_of_ble_eq_true rfl) (by decide) ⟨by decide, by decide⟩ ?_
            refine r_if_ne (pc := 44) C 49 dX9_readLegs_44 (by decide) (fun c44 => ?_) (fun c44 => ?_)
            · exact absurd rfl c44
            · refine r_iconst (pc := 47) C (0) dX9_readLegs_47 (by decide) ?_
              refine q_zret (pc := 48) C dX9_readLegs_48 rfl (Or.inl rfl) ?_
              exact PoR.bad hF hA.at (by rw [← hS]; simp [legsS, tkS, k21, e21, hn8]) (by rw [← hS]; simp [legsS, tkS, k21, e21, hn8]) (by decide)
      · skip
        refine r_if_eq (pc := 24) C 47 dX9_readLegs_24 (by decide) (fun c24 => ?_) (fun c24 => ?_)
        · refine r_iconst (pc := 47) C (0) dX9_readLegs_47 (by decide) ?_
          refine q_zret (pc := 48) C dX9_readLegs_48 rfl (Or.inl rfl) ?_
          exact PoR.bad hF hA.at (by rw [← hS]; simp [legsS, tkS, k21, e21]) (by rw [← hS]; simp [legsS, tkS, k21, e21]) (by decide)
        · exact absurd rfl c24
      · skip
        refine r_if_eq (pc := 24) C 47 dX9_readLegs_24 (by decide) (fun c24 => ?_) (fun c24 => ?_)
        · refine r_iconst (pc := 47) C (0) dX9_readLegs_47 (by decide) ?_
          refine q_zret (pc := 48) C dX9_readLegs_48 rfl (Or.inl rfl) ?_
          exact PoR.bad hF hA.at (by rw [← hS]; simp [legsS, tkS, k21]) (by rw [← hS]; simp [legsS, tkS, k21]) (by decide)
        · exact absurd rfl c24
set_option maxRecDepth 100000 in
set_option maxHeartbeats 4000000 in
theorem c_X9_readLegs {G : GG} {kn : Nat} {f : MM} {tp : Nat → Int32} {len p : Nat} {rd : Nat → Int32} (hA : AtR tp len f p) (h92 : f 92 = rd) (h8 : rd 8 = 0) : RI G mX9_readLegs 5 kn [.ref (G.1 + 85)] f (fun v g => PoR tp len f ((fun s => if s.1 = 0 then legsS tp len 9 0 s else s) (tkS tp len 119 (0, p, rd))) v g) := by
  refine Ct.of [some (.ref (G.1 + 85)), none] rfl (by decide +kernel) rfl (Nat.le_of_ble_eq_true rfl) rfl ?_
  intro X C
  refine r_aload_n (pc := 0) C dX9_readLegs_0 rfl ?_
  refine r_bipush (pc := 1) C (119) dX9_readLegs_1 (by decide) ?_
  refine q_vI (pc := 3) C kX9_126 dX9_readLegs_3 (c_X9_takes hA) (s_85 _) rfl rfl (Nat.le_of_ble_eq_true rfl) (by decide) ⟨by decide, by decide⟩ ?_
  intro v3 f3 h3
  rcases h3 with ⟨e3, rfl, A3, t3⟩ | ⟨e3, rfl, rfl⟩
  · skip
    have F3 := t3.toR
    have R3 := (t3.row (by decide : 92 ≠ 85)).trans h92
    refine r_if_ne (pc := 6) C 11 dX9_readLegs_6 (by decide) (fun c6 => ?_) (fun c6 => ?_)
    · refine r_iconst (pc := 11) C (1) dX9_readLegs_11 (by decide) ?_
      refine r_istore_n (pc := 12) C dX9_readLegs_12 (by decide) rfl ?_
      exact l_readLegs C 9 0 (nx tp len p) rd _ (by omega) (by omega) A3 R3 h8 F3 (by simp [tkS, e3])
    · exact absurd c6 (by decide)
  · skip
    refine r_if_ne (pc := 6) C 11 dX9_readLegs_6 (by decide) (fun c6 => ?_) (fun c6 => ?_)
    · exact absurd rfl c6
    · refine r_iconst (pc := 9) C (0) dX9_readLegs_9 (by decide) ?_
      refine q_zret (pc := 10) C dX9_readLegs_10 rfl (Or.inl rfl) ?_
      exact PoR.bad agR.rf hA.at (by simp [tkS, e3]) (by simp [tkS, e3]) (by decide)
theorem sortK_le {c : Int32} : sortK c ≤ 5 := by unfold sortK; repeat' split
                                                 all_goals omega
theorem kdS_le {tp : Nat → Int32} {len p : Nat} : kdS tp len p ≤ 5 := by unfold kdS; split; exact sortK_le; omega
set_option maxRecDepth 100000 in
set_option maxHeartbeats 4000000 in
theorem c_X9_readWalker {G : GG} {kn : Nat} {f : MM} {tp : Nat → Int32} {len p n : Nat} {rd : Nat → Int32} (hA : AtR tp len f p) (h92 : f 92 = rd) (h13 : rd 13 = nI n) (hn : n ≤ 6) : RI G mX9_readWalker 5 kn [.ref (G.1 + 85)] f (fun v g => PoR tp len f (wkrS tp len n (0, p, rd)) v g) := by
  refine Ct.of [some (.ref (G.1 + 85)), none, none, none] rfl (by decide +kernel) rfl (Nat.le_of_ble_eq_true rfl) rfl ?_
  intro X C
  have hk3 := knd_le (tp := tp) (len := len) (p := p)
  have hkd5 : kdS tp len p ≤ 5 := kdS_le
  have J : ∀ x : Int32, Vw X G mX9_readWalker.2.2.2.1 0 0 (QQ X G (pI kn (fun v g => PoR tp len f (wkrS tp len n (0, p, rd)) v g)) 0 0) (NN kn) (shF kn) f 68 [some (.ref (G.1 + 85)), some (.int x), none, none] [.int (nI (kdS tp len p))] := by
    intro x
    refine r_istore_n (pc := 68) C dX9_readWalker_68 (by decide) rfl ?_
    refine r_iload_n (pc := 69) C dX9_readWalker_69 rfl ?_
    refine r_if_eq (pc := 70) C 85 dX9_readWalker_70 (by decide) (fun c70 => ?_) (fun c70 => ?_)
    · have hk0 : kdS tp len p = 0 := (nI_eq (by omega) (by decide)).mp c70
      refine r_aload_n (pc := 85) C dX9_readWalker_85 rfl ?_
      refine r_iload_n (pc := 86) C dX9_readWalker_86 rfl ?_
      refine r_if_ne (pc := 87) C 94 dX9_readWalker_87 (by decide) (fun c87 => ?_) (fun c87 => ?_)
      · exact absurd (by rw [hk0]; rfl) c87
      · refine r_iconst (pc := 90) C (1) dX9_readWalker_90 (by decide) ?_
        refine r_goto (pc := 91) C 95 dX9_readWalker_91 (by decide) ?_
        refine q_vIf (pc := 95) C kX9_120 dX9_readWalker_95 (c_X9_faults) (s_85 _) rfl rfl (Nat.le_of_ble_eq_true rfl) (by decide) ⟨by decide, by decide⟩ ?_
        refine q_zret (pc := 98) C dX9_readWalker_98 rfl (Or.inl rfl) ?_
        exact PoR.bad agR.rf hA.at (by simp [wkrS, tkS, numS, setRd, hk0]) (by simp [wkrS, tkS, numS, setRd, hk0]) (by decide)
    · have hk0 : ¬ kdS tp len p = 0 := fun q => c70 (by rw [q]; rfl)
      refine r_aload_n (pc := 73) C dX9_readWalker_73 rfl ?_
      refine r_getr (pc := 74) C fX9_28 dX9_readWalker_74 (s_85 _) rfl rfl ?_
      refine r_bipush (pc := 77) C (13) dX9_readWalker_77 (by decide) ?_
      refine q_iald (pc := 79) C 13 dX9_readWalker_79 (s_92 _) (sn_92 _) rfl (by omega) (by decide) ?_
      refine r_bipush (pc := 80) C (6) dX9_readWalker_80 (by decide) ?_
      refine q_ne (pc := 82) C n 6 99 (by rw [h92]; exact h13) rfl (by omega) (by omega) dX9_readWalker_82 (by decide) (fun c82 => ?_) (fun c82 => ?_)
      · have hn6 : ¬ n = 6 := c82
        refine r_aload_n (pc := 99) C dX9_readWalker_99 rfl ?_
        refine r_getr (pc := 100) C fX9_28 dX9_readWalker_100 (s_85 _) rfl rfl ?_
        refine r_bipush (pc := 103) C (13) dX9_readWalker_103 (by decide) ?_
        refine q_iald (pc := 105) C 13 dX9_readWalker_105 (s_92 _) (sn_92 _) rfl (by omega) (by decide) ?_
        refine q_is n (by rw [h92]; exact h13) ?_
        refine r_istore_n (pc := 106) C dX9_readWalker_106 (by decide) rfl ?_
        refine r_aload_n (pc := 107) C dX9_readWalker_107 rfl ?_
        refine q_vV (pc := 108) C kX9_123 dX9_readWalker_108 (c_X9_nextToken hA.1 hA.2.1 hA.2.2.1 hA.2.2.2.2.2.1 hA.2.2.2.2.1) (s_85 _) rfl rfl (Nat.le_of_ble_eq_true rfl) (by decide) ⟨by decide, by decide⟩ ?_
        intro f108 h108
        obtain ⟨A108, t108⟩ := h108
        have F108 := t108.toR
        have R108 := (t108.row (by decide : 92 ≠ 85)).trans h92
        refine r_aload_n (pc := 111) C dX9_readWalker_111 rfl ?_
        refine r_iconst (pc := 112) C (1) dX9_readWalker_112 (by decide) ?_
        refine r_bipush (pc := 113) C (20) dX9_readWalker_113 (by decide) ?_
        refine q_vI (pc := 115) C kX9_129 dX9_readWalker_115 (c_X9_isNumber A108) (s_85 _) rfl rfl (Nat.le_of_ble_eq_true rfl) (by decide) ⟨by decide, by decide⟩ ?_
        intro v115 f115 h115
        rcases h115 with ⟨k115, e115, rfl, rfl⟩ | ⟨k115, e115, rfl, rfl⟩ | ⟨k115, rfl, rfl⟩
        · skip
          refine r_if_ne (pc := 118) C 123 dX9_readWalker_118 (by decide) (fun c118 => ?_) (fun c118 => ?_)
          · refine r_aload_n (pc := 123) C dX9_readWalker_123 rfl ?_
            refine r_getr (pc := 124) C fX9_28 dX9_readWalker_124 (s_85 _) rfl rfl ?_
            refine r_bipush (pc := 127) C (14) dX9_readWalker_127 (by decide) ?_
            refine r_iload_n (pc := 129) C dX9_readWalker_129 rfl ?_
            refine r_iadd (pc := 130) C dX9_readWalker_130 ?_
            refine r_iload_n (pc := 131) C dX9_readWalker_131 rfl ?_
            refine q_iast (pc := 132) C (14 + n) dX9_readWalker_132 (s_92 _) (sn_92 _) (nI_add 14 n) (by omega) (by decide) ?_
            have A132 := A108.put92 (b := 14 + n) (v := nI (kdS tp len p))
            have F132 := F108.put92 (b := 14 + n) (v := nI (kdS tp len p))
            have R132 := (u2_self (g := f115) (c := 92) (b := 14 + n) (v := nI (kdS tp len p))).trans (congrArg (fun q => upd q (14 + n) (nI (kdS tp len p))) R108)
            refine r_aload_n (pc := 133) C dX9_readWalker_133 rfl ?_
            refine r_getr (pc := 134) C fX9_28 dX9_readWalker_134 (s_85 _) rfl rfl ?_
            refine r_bipush (pc := 137) C (20) dX9_readWalker_137 (by decide) ?_
            refine r_iload_n (pc := 139) C dX9_readWalker_139 rfl ?_
            refine r_iadd (pc := 140) C dX9_readWalker_140 ?_
            refine r_aload_n (pc := 141) C dX9_readWalker_141 rfl ?_
            refine q_vI (pc := 142) C kX9_133 dX9_readWalker_142 (c_X9_taken A132 k115) (s_85 _) rfl rfl (Nat.le_of_ble_eq_true rfl) (by decide) ⟨by decide, by decide⟩ ?_
            intro v142 f142 h142
            obtain ⟨rfl, A142, t142⟩ := h142
            have F142 : agR f f142 := F132.tr t142.toR
            have R142 := (t142.row (by decide : 92 ≠ 85)).trans R132
            refine q_iast (pc := 145) C (20 + n) dX9_readWalker_145 (s_92 _) (sn_92 _) (nI_add 20 n) (by omega) (by decide) ?_
            have B145 := A142.put92 (b := 20 + n) (v := vl tp len (nx tp len p))
            have F145 := F142.put92 (b := 20 + n) (v := vl tp len (nx tp len p))
            have R145 := (u2_self (g := f142) (c := 92) (b := 20 + n) (v := vl tp len (nx tp len p))).trans (congrArg (fun q => upd q (20 + n) (vl tp len (nx tp len p))) R142)
            refine r_aload_n (pc := 146) C dX9_readWalker_146 rfl ?_
            refine r_bipush (pc := 147) C (44) dX9_readWalker_147 (by decide) ?_
            refine q_vI (pc := 149) C kX9_126 dX9_readWalker_149 (c_X9_takes B145) (s_85 _) rfl rfl (Nat.le_of_ble_eq_true rfl) (by decide) ⟨by decide, by decide⟩ ?_
            intro v149 f149 h149
            rcases h149 with ⟨e149, rfl, A149, t149⟩ | ⟨e149, rfl, rfl⟩
            · skip
              have F149 : agR f f149 := F145.tr t149.toR
              have R149 := (t149.row (by decide : 92 ≠ 85)).trans R145
              refine r_if_eq (pc := 152) C 165 dX9_readWalker_152 (by decide) (fun c152 => ?_) (fun c152 => ?_)
              · exact absurd c152 (by decide)
              · refine r_aload_n (pc := 155) C dX9_readWalker_155 rfl ?_
                refine r_iconst (pc := 156) C (0) dX9_readWalker_156 (by decide) ?_
                refine r_bipush (pc := 157) C (9) dX9_readWalker_157 (by decide) ?_
                refine q_vI (pc := 159) C kX9_129 dX9_readWalker_159 (c_X9_isNumber A149) (s_85 _) rfl rfl (Nat.le_of_ble_eq_true rfl) (by decide) ⟨by decide, by decide⟩ ?_
                intro v159 f159 h159
                rcases h159 with ⟨k159, e159, rfl, rfl⟩ | ⟨k159, e159, rfl, rfl⟩ | ⟨k159, rfl, rfl⟩
                · skip
                  refine r_if_ne (pc := 162) C 167 dX9_readWalker_162 (by decide) (fun c162 => ?_) (fun c162 => ?_)
                  · refine r_aload_n (pc := 167) C dX9_readWalker_167 rfl ?_
                    refine r_getr (pc := 168) C fX9_28 dX9_readWalker_168 (s_85 _) rfl rfl ?_
                    refine r_bipush (pc := 171) C (26) dX9_readWalker_171 (by decide) ?_
                    refine r_iload_n (pc := 173) C dX9_readWalker_173 rfl ?_
                    refine r_iadd (pc := 174) C dX9_readWalker_174 ?_
                    refine r_aload_n (pc := 175) C dX9_readWalker_175 rfl ?_
                    refine q_vI (pc := 176) C kX9_133 dX9_readWalker_176 (c_X9_taken A149 k159) (s_85 _) rfl rfl (Nat.le_of_ble_eq_true rfl) (by decide) ⟨by decide, by decide⟩ ?_
                    intro v176 f176 h176
                    obtain ⟨rfl, A176, t176⟩ := h176
                    have F176 : agR f f176 := F149.tr t176.toR
                    have R176 := (t176.row (by decide : 92 ≠ 85)).trans R149
                    refine q_iast (pc := 179) C (26 + n) dX9_readWalker_179 (s_92 _) (sn_92 _) (nI_add 26 n) (by omega) (by decide) ?_
                    have B179 := A176.put92 (b := 26 + n) (v := vl tp len (nx tp len (nx tp len (nx tp len p))))
                    have F179 := F176.put92 (b := 26 + n) (v := vl tp len (nx tp len (nx tp len (nx tp len p))))
                    have R179 := (u2_self (g := f176) (c := 92) (b := 26 + n) (v := vl tp len (nx tp len (nx tp len (nx tp len p))))).trans (congrArg (fun q => upd q (26 + n) (vl tp len (nx tp len (nx tp len (nx tp len p))))) R176)
                    refine r_aload_n (pc := 180) C dX9_readWalker_180 rfl ?_
                    refine r_getr (pc := 181) C fX9_28 dX9_readWalker_181 (s_85 _) rfl rfl ?_
                    refine r_bipush (pc := 184) C (13) dX9_readWalker_184 (by decide) ?_
                    refine r_dup2 (pc := 186) C dX9_readWalker_186 rfl rfl ?_
                    refine q_iald (pc := 187) C 13 dX9_readWalker_187 (s_92 _) (sn_92 _) rfl (by omega) (by decide) ?_
                    refine q_val (nI n) ?_ ?_
                    · rw [R179]; simp [upd, show ¬ 13 = 26 + n by omega, show ¬ 13 = 20 + n by omega, show ¬ 13 = 14 + n by omega]; exact h13
                    refine r_iconst (pc := 188) C (1) dX9_readWalker_188 (by decide) ?_
                    refine r_iadd (pc := 189) C dX9_readWalker_189 ?_
                    refine q_is (n + 1) (nI_1 n) ?_
                    refine q_iast (pc := 190) C 13 dX9_readWalker_190 (s_92 _) (sn_92 _) rfl (by omega) (by decide) ?_
                    have B190 := B179.put92 (b := 13) (v := nI (n + 1))
                    have F190 := F179.put92 (b := 13) (v := nI (n + 1))
                    have R190 := (u2_self (c := 92) (b := 13) (v := nI (n + 1))).trans (congrArg (fun q => upd q 13 (nI (n + 1))) R179)
                    refine r_aload_n (pc := 191) C dX9_readWalker_191 rfl ?_
                    refine r_bipush (pc := 192) C (59) dX9_readWalker_192 (by decide) ?_
                    refine q_vI (pc := 194) C kX9_126 dX9_readWalker_194 (c_X9_takes B190) (s_85 _) rfl rfl (Nat.le_of_ble_eq_true rfl) (by decide) ⟨by decide, by decide⟩ ?_
                    intro v194 f194 h194
                    rcases h194 with ⟨e194, rfl, A194, t194⟩ | ⟨e194, rfl, rfl⟩
                    · skip
                      have F194 := F190.tr t194.toR
                      have R194 := (t194.row (by decide : 92 ≠ 85)).trans R190
                      refine q_zret (pc := 197) C dX9_readWalker_197 rfl (by first | exact Or.inl rfl | exact Or.inr rfl) ?_
                      refine ⟨F194, Or.inl ⟨?_, rfl, ?_, ?_⟩⟩
                      · simp [wkrS, tkS, numS, setRd, hk0, hn6, k115, e115, e149, k159, e159, e194]
                      · exact A194.eq (by simp [wkrS, tkS, numS, setRd, hk0, hn6, k115, e115, e149, k159, e159, e194])
                      · rw [R194]; simp [wkrS, tkS, numS, setRd, hk0, hn6, k115, e115, e149, k159, e159, e194]
                    · skip
                      refine q_zret (pc := 197) C dX9_readWalker_197 rfl (by first | exact Or.inl rfl | exact Or.inr rfl) ?_
                      exact PoR.bad F190 B190.at (by simp [wkrS, tkS, numS, setRd, hk0, hn6, k115, e115, e149, k159, e159, e194]) (by simp [wkrS, tkS, numS, setRd, hk0, hn6, k115, e115, e149, k159, e159, e194]) (by decide)
                  · exact absurd c162 (by decide)
                · skip
                  refine r_if_ne (pc := 162) C 167 dX9_readWalker_162 (by decide) (fun c162 => ?_) (fun c162 => ?_)
                  · exact absurd rfl c162
                  · refine r_iconst (pc := 165) C (0) dX9_readWalker_165 (by decide) ?_
                    refine q_zret (pc := 166) C dX9_readWalker_166 rfl (Or.inl rfl) ?_
                    exact PoR.bad F149 A149.at (by simp [wkrS, tkS, numS, setRd, hk0, hn6, k115, e115, e149, k159, e159]) (by simp [wkrS, tkS, numS, setRd, hk0, hn6, k115, e115, e149, k159, e159]) (by decide)
                · skip
                  refine r_if_ne (pc := 162) C 167 dX9_readWalker_162 (by decide) (fun c162 => ?_) (fun c162 => ?_)
                  · exact absurd rfl c162
                  · refine r_iconst (pc := 165) C (0) dX9_readWalker_165 (by decide) ?_
                    refine q_zret (pc := 166) C dX9_readWalker_166 rfl (Or.inl rfl) ?_
                    exact PoR.bad F149 A149.at (by simp [wkrS, tkS, numS, setRd, hk0, hn6, k115, e115, e149, k159]) (by simp [wkrS, tkS, numS, setRd, hk0, hn6, k115, e115, e149, k159]) (by decide)
            · skip
              refine r_if_eq (pc := 152) C 165 dX9_readWalker_152 (by decide) (fun c152 => ?_) (fun c152 => ?_)
              · refine r_iconst (pc := 165) C (0) dX9_readWalker_165 (by decide) ?_
                refine q_zret (pc := 166) C dX9_readWalker_166 rfl (Or.inl rfl) ?_
                exact PoR.bad F145 B145.at (by simp [wkrS, tkS, numS, setRd, hk0, hn6, k115, e115, e149]) (by simp [wkrS, tkS, numS, setRd, hk0, hn6, k115, e115, e149]) (by decide)
              · exact absurd rfl c152
          · exact absurd c118 (by decide)
        · skip
          refine r_if_ne (pc := 118) C 123 dX9_readWalker_118 (by decide) (fun c118 => ?_) (fun c118 => ?_)
          · exact absurd rfl c118
          · refine r_iconst (pc := 121) C (0) dX9_readWalker_121 (by decide) ?_
            refine q_zret (pc := 122) C dX9_readWalker_122 rfl (Or.inl rfl) ?_
            exact PoR.bad F108 A108.at (by simp [wkrS, tkS, numS, setRd, hk0, hn6, k115, e115]) (by simp [wkrS, tkS, numS, setRd, hk0, hn6, k115, e115]) (by decide)
        · skip
          refine r_if_ne (pc := 118) C 123 dX9_readWalker_118 (by decide) (fun c118 => ?_) (fun c118 => ?_)
          · exact absurd rfl c118
          · refine r_iconst (pc := 121) C (0) dX9_readWalker_121 (by decide) ?_
            refine q_zret (pc := 122) C dX9_readWalker_122 rfl (Or.inl rfl) ?_
            exact PoR.bad F108 A108.at (by simp [wkrS, tkS, numS, setRd, hk0, hn6, k115]) (by simp [wkrS, tkS, numS, setRd, hk0, hn6, k115]) (by decide)
      · have hn6 : n = 6 := c82
        refine r_aload_n (pc := 85) C dX9_readWalker_85 rfl ?_
        refine r_iload_n (pc := 86) C dX9_readWalker_86 rfl ?_
        refine r_if_ne (pc := 87) C 94 dX9_readWalker_87 (by decide) (fun c87 => ?_) (fun c87 => ?_)
        · refine r_iconst (pc := 94) C (3) dX9_readWalker_94 (by decide) ?_
          refine q_vIf (pc := 95) C kX9_120 dX9_readWalker_95 (c_X9_faults) (s_85 _) rfl rfl (Nat.le_of_ble_eq_true rfl) (by decide) ⟨by decide, by decide⟩ ?_
          refine q_zret (pc := 98) C dX9_readWalker_98 rfl (Or.inl rfl) ?_
          exact PoR.bad agR.rf hA.at (by simp [wkrS, tkS, numS, setRd, hk0, hn6]) (by simp [wkrS, tkS, numS, setRd, hk0, hn6]) (by decide)
        · exact absurd ((nI_eq (by omega) (by decide)).mp c87) hk0
  refine r_aload_n (pc := 0) C dX9_readWalker_0 rfl ?_
  refine r_get (pc := 1) C fX9_104 dX9_readWalker_1 (s_85 _) rfl ?_
  refine r_iconst (pc := 4) C (1) dX9_readWalker_4 (by decide) ?_
  refine q_ne (pc := 5) C (knd tp len p) 1 15 hA.kd rfl (by omega) (by omega) dX9_readWalker_5 (by decide) (fun c5 => ?_) (fun c5 => ?_)
  · refine r_iconst (pc := 15) C (0) dX9_readWalker_15 (by decide) ?_
    refine r_istore_n (pc := 16) C dX9_readWalker_16 (by decide) rfl ?_
    refine r_iload_n (pc := 17) C dX9_readWalker_17 rfl ?_
    refine r_bipush (pc := 18) C (115) dX9_readWalker_18 (by decide) ?_
    refine r_icmp_ne (pc := 20) C 27 dX9_readWalker_20 (by decide) (fun c20 => ?_) (fun c20 => ?_)
    · refine r_iload_n (pc := 27) C dX9_readWalker_27 rfl ?_
      refine r_bipush (pc := 28) C (113) dX9_readWalker_28 (by decide) ?_
      refine r_icmp_ne (pc := 30) C 37 dX9_readWalker_30 (by decide) (fun c30 => ?_) (fun c30 => ?_)
      · refine r_iload_n (pc := 37) C dX9_readWalker_37 rfl ?_
        refine r_bipush (pc := 38) C (112) dX9_readWalker_38 (by decide) ?_
        refine r_icmp_ne (pc := 40) C 47 dX9_readWalker_40 (by decide) (fun c40 => ?_) (fun c40 => ?_)
        · refine r_iload_n (pc := 47) C dX9_readWalker_47 rfl ?_
          refine r_bipush (pc := 48) C (111) dX9_readWalker_48 (by decide) ?_
          refine r_icmp_ne (pc := 50) C 57 dX9_readWalker_50 (by decide) (fun c50 => ?_) (fun c50 => ?_)
          · refine r_iload_n (pc := 57) C dX9_readWalker_57 rfl ?_
            refine r_bipush (pc := 58) C (108) dX9_readWalker_58 (by decide) ?_
            refine r_icmp_ne (pc := 60) C 67 dX9_readWalker_60 (by decide) (fun c60 => ?_) (fun c60 => ?_)
            · refine r_iconst (pc := 67) C (0) dX9_readWalker_67 (by decide) ?_
              have e : kdS tp len p = 0 := by simp [kdS, c5]
              have j := J 0
              rw [e] at j
              exact j
            · refine r_iconst (pc := 63) C (5) dX9_readWalker_63 (by decide) ?_
              refine r_goto (pc := 64) C 68 dX9_readWalker_64 (by decide) ?_
              exact absurd c60 (by decide)
          · refine r_iconst (pc := 53) C (4) dX9_readWalker_53 (by decide) ?_
            refine r_goto (pc := 54) C 68 dX9_readWalker_54 (by decide) ?_
            exact absurd c50 (by decide)
        · refine r_iconst (pc := 43) C (3) dX9_readWalker_43 (by decide) ?_
          refine r_goto (pc := 44) C 68 dX9_readWalker_44 (by decide) ?_
          exact absurd c40 (by decide)
      · refine r_iconst (pc := 33) C (2) dX9_readWalker_33 (by decide) ?_
        refine r_goto (pc := 34) C 68 dX9_readWalker_34 (by decide) ?_
        exact absurd c30 (by decide)
    · refine r_iconst (pc := 23) C (1) dX9_readWalker_23 (by decide) ?_
      refine r_goto (pc := 24) C 68 dX9_readWalker_24 (by decide) ?_
      exact absurd c20 (by decide)
  · refine r_aload_n (pc := 8) C dX9_readWalker_8 rfl ?_
    refine r_get (pc := 9) C fX9_107 dX9_readWalker_9 (s_85 _) rfl ?_
    have ev := hA.2.2.2.2.2.2.2.1 (by omega) (by omega)
    refine q_val (vl tp len p) ev ?_
    refine r_goto (pc := 12) C 16 dX9_readWalker_12 (by decide) ?_
    refine r_istore_n (pc := 16) C dX9_readWalker_16 (by decide) rfl ?_
    refine r_iload_n (pc := 17) C dX9_readWalker_17 rfl ?_
    refine r_bipush (pc := 18) C (115) dX9_readWalker_18 (by decide) ?_
    refine r_icmp_ne (pc := 20) C 27 dX9_readWalker_20 (by decide) (fun c20 => ?_) (fun c20 => ?_)
    · refine r_iload_n (pc := 27) C dX9_readWalker_27 rfl ?_
      refine r_bipush (pc := 28) C (113) dX9_readWalker_28 (by decide) ?_
      refine r_icmp_ne (pc := 30) C 37 dX9_readWalker_30 (by decide) (fun c30 => ?_) (fun c30 => ?_)
      · refine r_iload_n (pc := 37) C dX9_readWalker_37 rfl ?_
        refine r_bipush (pc := 38) C (112) dX9_readWalker_38 (by decide) ?_
        refine r_icmp_ne (pc := 40) C 47 dX9_readWalker_40 (by decide) (fun c40 => ?_) (fun c40 => ?_)
        · refine r_iload_n (pc := 47) C dX9_readWalker_47 rfl ?_
          refine r_bipush (pc := 48) C (111) dX9_readWalker_48 (by decide) ?_
          refine r_icmp_ne (pc := 50) C 57 dX9_readWalker_50 (by decide) (fun c50 => ?_) (fun c50 => ?_)
          · refine r_iload_n (pc := 57) C dX9_readWalker_57 rfl ?_
            refine r_bipush (pc := 58) C (108) dX9_readWalker_58 (by decide) ?_
            refine r_icmp_ne (pc := 60) C 67 dX9_readWalker_60 (by decide) (fun c60 => ?_) (fun c60 => ?_)
            · refine r_iconst (pc := 67) C (0) dX9_readWalker_67 (by decide) ?_
              have e : kdS tp len p = 0 := by simp [kdS, sortK, c5, ev, c20, c30, c40, c50, c60]
              have j := J (vl tp len p)
              rw [e] at j
              exact j
            · refine r_iconst (pc := 63) C (5) dX9_readWalker_63 (by decide) ?_
              refine r_goto (pc := 64) C 68 dX9_readWalker_64 (by decide) ?_
              have e : kdS tp len p = 5 := by simp [kdS, sortK, c5, ev, c20, c30, c40, c50, c60]
              have j := J (vl tp len p)
              rw [e] at j
              exact j
          · refine r_iconst (pc := 53) C (4) dX9_readWalker_53 (by decide) ?_
            refine r_goto (pc := 54) C 68 dX9_readWalker_54 (by decide) ?_
            have e : kdS tp len p = 4 := by simp [kdS, sortK, c5, ev, c20, c30, c40, c50]
            have j := J (vl tp len p)
            rw [e] at j
            exact j
        · refine r_iconst (pc := 43) C (3) dX9_readWalker_43 (by decide) ?_
          refine r_goto (pc := 44) C 68 dX9_readWalker_44 (by decide) ?_
          have e : kdS tp len p = 3 := by simp [kdS, sortK, c5, ev, c20, c30, c40]
          have j := J (vl tp len p)
          rw [e] at j
          exact j
      · refine r_iconst (pc := 33) C (2) dX9_readWalker_33 (by decide) ?_
        refine r_goto (pc := 34) C 68 dX9_readWalker_34 (by decide) ?_
        have e : kdS tp len p = 2 := by simp [kdS, sortK, c5, ev, c20, c30]
        have j := J (vl tp len p)
        rw [e] at j
        exact j
    · refine r_iconst (pc := 23) C (1) dX9_readWalker_23 (by decide) ?_
      refine r_goto (pc := 24) C 68 dX9_readWalker_24 (by decide) ?_
      have e : kdS tp len p = 1 := by simp [kdS, sortK, c5, ev, c20]
      have j := J (vl tp len p)
      rw [e] at j
      exact j
theorem tkS_rd {tp : Nat → Int32} {len : Nat} {c : Int32} {s : PR} : (tkS tp len c s).2.2 = s.2.2 := by
  unfold tkS
  repeat' split
  all_goals rfl
theorem wkrS_13 {tp : Nat → Int32} {len n : Nat} {s : PR} (h : (wkrS tp len n s).1 = 0) : n ≠ 6 ∧ (wkrS tp len n s).2.2 13 = nI (n + 1) := by
  unfold wkrS at h ⊢
  by_cases h1 : kdS tp len s.2.1 = 0
  · rw [if_pos h1] at h; exact absurd h (by simp)
  · rw [if_neg h1] at h ⊢
    by_cases h2 : n = 6
    · rw [if_pos h2] at h; exact absurd h (by simp)
    · rw [if_neg h2]
      refine ⟨h2, ?_⟩
      rw [tkS_rd]
      simp [setRd, upd]
set_option maxRecDepth 100000 in
set_option maxHeartbeats 4000000 in
theorem l_readWay0 {X : XT} {G : GG} {kn : Nat} {Q : State → Prop} {g0 : MM} (C : Cx X G mX9_readWay 6 0 0 (NN kn))  (K : ∀ g : MM, (fun i g => g = fillM g0 92 0 i (fun _ => 0)) 56 g → Vw X G mX9_readWay.2.2.2.1 0 0 Q (NN kn) (shF kn) g 26 [some (.ref (G.1 + 85)), some (.int (nI 56))] []) : ∀ (m i : Nat) (g : MM), i + m = 56 → (fun i g => g = fillM g0 92 0 i (fun _ => 0)) i g → Vw X G mX9_readWay.2.2.2.1 0 0 Q (NN kn) (shF kn) g 7 [some (.ref (G.1 + 85)), some (.int (nI i))] [] := by
  intro m
  induction m with
  | zero =>
    intro i g hm hg
    obtain rfl : 56 = i := by omega
    subst hg
    refine r_iload_n (pc := 7) C dX9_readWay_7 rfl ?_
    refine r_bipush (pc := 8) C (56) dX9_readWay_8 (by decide) ?_
    refine q_ge (pc := 10) C 56 56 26 rfl rfl (by omega) (by omega) dX9_readWay_10 (by decide) (fun c10 => ?_) (fun c10 => ?_)
    · exact K _ rfl
    · exact absurd c10 (by omega)
  | succ m ih =>
    intro i g hm hg
    subst hg
    refine r_iload_n (pc := 7) C dX9_readWay_7 rfl ?_
    refine r_bipush (pc := 8) C (56) dX9_readWay_8 (by decide) ?_
    refine q_ge (pc := 10) C i 56 26 rfl rfl (by omega) (by omega) dX9_readWay_10 (by decide) (fun c10 => ?_) (fun c10 => ?_)
    · exact absurd c10 (by omega)
    · refine r_aload_n (pc := 13) C dX9_readWay_13 rfl ?_
      refine r_getr (pc := 14) C fX9_28 dX9_readWay_14 (s_85 _) rfl rfl ?_
      refine r_iload_n (pc := 17) C dX9_readWay_17 rfl ?_
      refine r_iconst (pc := 18) C (0) dX9_readWay_18 (by decide) ?_
      refine q_iast (pc := 19) C i dX9_readWay_19 (s_92 _) (sn_92 _) rfl (by omega) (by decide) ?_
      refine r_iinc (pc := 20) C (nI (i + 1)) dX9_readWay_20 rfl (nI_inc _) (by decide) rfl ?_
      refine r_goto (pc := 23) C 7 dX9_readWay_23 (by decide) ?_
      refine ih (i + 1) _ (by omega) ?_
      exact fillM_step0 rfl
set_option maxRecDepth 100000 in
set_option maxHeartbeats 4000000 in
theorem l_readWay1 {X : XT} {G : GG} {kn : Nat} {f : MM} {tp : Nat → Int32} {len : Nat} {S0 : PR} (C : Cx X G mX9_readWay 6 0 0 (NN kn)) : ∀ (k n p : Nat) (rd : Nat → Int32) (g : MM), n + k = 8 → n ≤ 6 → AtR tp len g p → g 92 = rd → rd 13 = nI n → agR f g → wksS tp len k n (0, p, rd) = S0 → Vw X G mX9_readWay.2.2.2.1 0 0 (QQ X G (pI kn (fun v g => PoR tp len f S0 v g)) 0 0) (NN kn) (shF kn) g 46 [some (.ref (G.1 + 85)), some (.int (nI 56))] [] := by
  intro k
  induction k with
  | zero => intro n p rd g h1 h2; exact absurd h1 (by omega)
  | succ k ih =>
    intro n p rd g hk hn hA hR h13 hF hS
    have hk3 := knd_le (tp := tp) (len := len) (p := p)
    have hS2 : wksS tp len (k + 1) n (0, p, rd) = (if knd tp len p = 3 then (0, p, rd) else wksS tp len k (n + 1) (wkrS tp len n (0, p, rd))) := by simp [wksS]
    rw [hS2] at hS
    refine r_aload_n (pc := 46) C dX9_readWay_46 rfl ?_
    refine r_get (pc := 47) C fX9_104 dX9_readWay_47 (s_85 _) rfl ?_
    refine r_iconst (pc := 50) C (3) dX9_readWay_50 (by decide) ?_
    refine q_eq (pc := 51) C (knd tp len p) 3 63 hA.kd rfl (by omega) (by omega) dX9_readWay_51 (by decide) (fun c51 => ?_) (fun c51 => ?_)
    · refine r_iconst (pc := 63) C (1) dX9_readWay_63 (by decide) ?_
      refine q_zret (pc := 64) C dX9_readWay_64 rfl (Or.inr rfl) ?_
      rw [if_pos c51] at hS
      exact ⟨hF, Or.inl ⟨by rw [← hS], rfl, by rw [← hS]; exact hA, by rw [← hS]; exact hR⟩⟩
    · refine r_aload_n (pc := 54) C dX9_readWay_54 rfl ?_
      refine q_vI (pc := 55) C kX9_144 dX9_readWay_55 (c_X9_readWalker hA hR h13 hn) (s_85 _) rfl rfl (Nat.le_of_ble_eq_true rfl) (by decide) ⟨by decide, by decide⟩ ?_
      intro v55 f55 h55
      obtain ⟨a55, h55⟩ := h55
      rcases h55 with ⟨z1, rfl, z2, z3⟩ | ⟨z1, rfl, z2, z3⟩
      · skip
        refine r_if_ne (pc := 58) C 46 dX9_readWay_58 (by decide) (fun c58 => ?_) (fun c58 => ?_)
        · rw [if_neg c51] at hS
          obtain ⟨y1, y2⟩ := wkrS_13 z1
          have es : wkrS tp len n (0, p, rd) = (0, (wkrS tp len n (0, p, rd)).2.1, (wkrS tp len n (0, p, rd)).2.2) := Prod.ext z1 rfl
          exact ih (n + 1) _ _ _ (by omega) (by omega) z2 z3 y2 (hF.tr a55) (by rw [← es]; exact hS)
        · exact absurd c58 (by decide)
      · skip
        refine r_if_ne (pc := 58) C 46 dX9_readWay_58 (by decide) (fun c58 => ?_) (fun c58 => ?_)
        · exact absurd rfl c58
        · refine r_iconst (pc := 61) C (0) dX9_readWay_61 (by decide) ?_
          refine q_zret (pc := 62) C dX9_readWay_62 rfl (Or.inl rfl) ?_
          rw [if_neg c51] at hS
          have e : wksS tp len k (n + 1) (wkrS tp len n (0, p, rd)) = wkrS tp len n (0, p, rd) := by
            obtain ⟨k2, rfl⟩ : ∃ k2, k = k2 + 1 := ⟨k - 1, by omega⟩
            simp [wksS, z1]
          rw [e] at hS
          exact ⟨hF.tr a55, Or.inr ⟨by rw [← hS]; exact z1, rfl, by rw [← hS]; exact z2, by rw [← hS]; exact z3⟩⟩

theorem wksS_bad {tp : Nat → Int32} {len k n : Nat} {s : PR} (h : s.1 ≠ 0) : wksS tp len (k + 1) n s = s := by simp [wksS, h]
theorem numS_rd {tp : Nat → Int32} {len : Nat} {lo hi : Int32} {ix t : Nat} {s : PR} (h : t ≠ ix) : (numS tp len lo hi ix s).2.2 t = s.2.2 t := by
  unfold numS
  repeat' split
  all_goals first | rfl | simp [upd, h]
theorem ruleS_rd {tp : Nat → Int32} {len t : Nat} {s : PR} (h : t ≠ 10 ∧ t ≠ 11 ∧ t ≠ 12) : (ruleS tp len s).2.2 t = s.2.2 t := by
  unfold ruleS
  rw [tkS_rd, numS_rd h.2.2, tkS_rd, numS_rd h.2.1, tkS_rd, numS_rd h.1, tkS_rd]
theorem legsS_rd {tp : Nat → Int32} {len t : Nat} (h : 9 ≤ t) : ∀ (k n : Nat) (s : PR), n ≤ 8 → (legsS tp len k n s).2.2 t = s.2.2 t := by
  intro k
  induction k with
  | zero => intro n s _; rfl
  | succ k ih =>
    intro n s hn
    unfold legsS
    by_cases h1 : knd tp len s.2.1 = 2
    · rw [if_pos h1]
      by_cases h2 : 1 ≤ vl tp len s.2.1 ∧ vl tp len s.2.1 ≤ 9
      · rw [if_pos h2]
        by_cases h3 : n = 8
        · rw [if_pos h3]
        · rw [if_neg h3]
          by_cases h4 : isT tp len (nx tp len s.2.1) 44 = true
          · rw [if_pos h4, ih _ _ (by omega)]
            simp [upd, show ¬ t = 8 by omega, show ¬ t = n by omega]
          · rw [if_neg h4, tkS_rd]
            simp [upd, show ¬ t = 8 by omega, show ¬ t = n by omega]
      · rw [if_neg h2]
    · rw [if_neg h1]
theorem rule13 {tp : Nat → Int32} {len : Nat} {rd : Nat → Int32} {s1 : PR} (h : s1 = ((fun s => if s.1 = 0 then legsS tp len 9 0 s else s) (tkS tp len 119 (0, 0, rd)))) (h13 : rd 13 = 0 := by rfl) : (ruleS tp len s1).2.2 13 = nI 0 := by
  rw [ruleS_rd (by decide), h]
  show (if (tkS tp len 119 (0, 0, rd)).1 = 0 then legsS tp len 9 0 (tkS tp len 119 (0, 0, rd)) else (tkS tp len 119 (0, 0, rd))).2.2 13 = nI 0
  split
  · rw [legsS_rd (by decide) _ _ _ (by decide), tkS_rd]; exact h13
  · rw [tkS_rd]; exact h13
set_option maxRecDepth 100000 in
set_option maxHeartbeats 4000000 in
theorem c_X9_readWay {G : GG} {kn : Nat} {f : MM} {tp : Nat → Int32} {len : Nat} (hlen : len ≤ 120) (ht : f 91 = tp) (hl : f 85 8 = nI len) : RI G mX9_readWay 6 kn [.ref (G.1 + 85)] f (fun v g => PoR tp len f (parseS tp len (fun t => if t < 56 then 0 else f 92 t)) v g) := by
  refine Ct.of [some (.ref (G.1 + 85)), none] rfl (by decide +kernel) rfl (Nat.le_of_ble_eq_true rfl) rfl ?_
  intro X C
  refine r_aload_n (pc := 0) C dX9_readWay_0 rfl ?_
  refine r_iconst (pc := 1) C (0) dX9_readWay_1 (by decide) ?_
  refine r_put (pc := 2) C fX9_98 ftX9_10 dX9_readWay_2 (s_85 _) rfl ?_
  refine r_iconst (pc := 5) C (0) dX9_readWay_5 (by decide) ?_
  refine r_istore_n (pc := 6) C dX9_readWay_6 (by decide) rfl ?_
  refine l_readWay0 (g0 := u2 f 85 10 0) C ?_ 56 0 _ rfl fillM_0.symm
  intro g hg
  subst hg
  refine r_aload_n (pc := 26) C dX9_readWay_26 rfl ?_
  refine q_vV (pc := 27) C kX9_123 dX9_readWay_27 (c_X9_nextToken (tp := tp) (len := len) (q := 0) hlen (by rw [← ht]; funext t; exact (fillM_ne (by decide)).trans (by simp [u2])) ((fillM_ne (by decide)).trans (by simp [u2, hl])) ((fillM_ne (by decide)).trans (by simp [u2]; rfl)) (by omega)) (s_85 _) rfl rfl (Nat.le_of_ble_eq_true rfl) (by decide) ⟨by decide, by decide⟩ ?_
  intro f27 h27
  obtain ⟨A27, t27⟩ := h27
  have R27 : f27 92 = (fun t => if t < 56 then 0 else f 92 t) := by
    rw [t27.row (by decide)]
    funext t
    by_cases q : t < 56
    · rw [if_pos q, fillM_in (by omega) (by omega)]
    · rw [if_neg q, fillM_out (by omega)]; simp [u2]
  have Fz : agR f f27 := fun k b h1 h2 => (t27 k b h1).trans ((fillM_ne h2).trans (by simp only [u2]; rw [if_neg (by omega)]))
  refine r_aload_n (pc := 30) C dX9_readWay_30 rfl ?_
  refine q_vI (pc := 31) C kX9_137 dX9_readWay_31 (c_X9_readLegs A27 R27 rfl) (s_85 _) rfl rfl (Nat.le_of_ble_eq_true rfl) (by decide) ⟨by decide, by decide⟩ ?_
  intro v31 f31 h31
  generalize hs1 : ((fun s => if s.1 = 0 then legsS tp len 9 0 s else s) (tkS tp len 119 (0, 0, (fun t => if t < 56 then 0 else f 92 t)))) = s1 at h31
  replace hs1 := hs1.symm
  obtain ⟨a31, h31⟩ := h31
  rcases h31 with ⟨z31, rfl, A31, R31⟩ | ⟨z31, rfl, A31, R31⟩
  · skip
    refine r_if_eq (pc := 34) C 44 dX9_readWay_34 (by decide) (fun c34 => ?_) (fun c34 => ?_)
    · exact absurd c34 (by decide)
    · refine r_aload_n (pc := 37) C dX9_readWay_37 rfl ?_
      refine q_vI (pc := 38) C kX9_141 dX9_readWay_38 (c_X9_readRule A31 R31) (s_85 _) rfl rfl (Nat.le_of_ble_eq_true rfl) (by decide) ⟨by decide, by decide⟩ ?_
      intro v38 f38 h38
      have es1 : ((0, s1.2.1, s1.2.2) : PR) = s1 := Prod.ext z31.symm rfl
      rw [es1] at h38
      obtain ⟨a38, h38⟩ := h38
      rcases h38 with ⟨z38, rfl, A38, R38⟩ | ⟨z38, rfl, A38, R38⟩
      · skip
        refine r_if_ne (pc := 41) C 46 dX9_readWay_41 (by decide) (fun c41 => ?_) (fun c41 => ?_)
        · have es2 : ruleS tp len s1 = (0, (ruleS tp len s1).2.1, (ruleS tp len s1).2.2) := Prod.ext z38 rfl
          refine l_readWay1 C 8 0 _ _ _ (by omega) (by omega) A38 R38 (rule13 hs1) (Fz.tr (a31.tr a38)) ?_
          rw [← es2]
          unfold parseS lruS
          rw [show ((fun s => if s.1 = 0 then legsS tp len 9 0 s else s) (tkS tp len 119 (0, 0, (fun t => if t < 56 then 0 else f 92 t)))) = s1 from hs1.symm]
          simp only [z31, if_true]
        · exact absurd c41 (by decide)
      · skip
        refine r_if_ne (pc := 41) C 46 dX9_readWay_41 (by decide) (fun c41 => ?_) (fun c41 => ?_)
        · exact absurd rfl c41
        · refine r_iconst (pc := 44) C (0) dX9_readWay_44 (by decide) ?_
          refine q_zret (pc := 45) C dX9_readWay_45 rfl (Or.inl rfl) ?_
          have e : parseS tp len (fun t => if t < 56 then 0 else f 92 t) = ruleS tp len s1 := by
            unfold parseS lruS
            rw [show ((fun s => if s.1 = 0 then legsS tp len 9 0 s else s) (tkS tp len 119 (0, 0, (fun t => if t < 56 then 0 else f 92 t)))) = s1 from hs1.symm]
            simp only [z31, if_true]
            exact wksS_bad z38
          exact ⟨Fz.tr (a31.tr a38), Or.inr ⟨by rw [e]; exact z38, rfl, by rw [e]; exact A38, by rw [e]; exact R38⟩⟩
  · skip
    refine r_if_eq (pc := 34) C 44 dX9_readWay_34 (by decide) (fun c34 => ?_) (fun c34 => ?_)
    · refine r_iconst (pc := 44) C (0) dX9_readWay_44 (by decide) ?_
      refine q_zret (pc := 45) C dX9_readWay_45 rfl (Or.inl rfl) ?_
      have e : parseS tp len (fun t => if t < 56 then 0 else f 92 t) = s1 := by
        unfold parseS lruS
        rw [show ((fun s => if s.1 = 0 then legsS tp len 9 0 s else s) (tkS tp len 119 (0, 0, (fun t => if t < 56 then 0 else f 92 t)))) = s1 from hs1.symm]
        simp only [z31, if_false]
        exact wksS_bad z31
      exact ⟨Fz.tr a31, Or.inr ⟨by rw [e]; exact z31, rfl, by rw [e]; exact A31, by rw [e]; exact R31⟩⟩
    · exact absurd rfl c34
/-- what way() of the reference answers and does -/
def PoWay (f : MM) (s : PR) (v : Int32) (g : MM) : Prop :=
  (s.1 ≠ 0 ∧ v = -1000100 - nI s.2.1 ∧ g 85 9 = nI s.1 ∧ g 85 8 = 0 ∧ ∀ k b, ¬ (k = 85 ∧ 8 ≤ b ∧ b ≤ 14) → k ≠ 92 → g k b = f k b) ∨
  (s.1 = 0 ∧ v = s.2.2 13 ∧ (∀ t, t < 56 → g 89 t = s.2.2 t) ∧ g 85 4 = 1 ∧ g 85 18 = 0 ∧ g 85 8 = 0 ∧ g 85 9 = f 85 9 ∧ ∀ k b, ¬ (k = 85 ∧ (b = 4 ∨ b = 18 ∨ (8 ≤ b ∧ b ≤ 14))) → k ≠ 92 → ¬ (k = 89 ∧ b < 56) → g k b = f k b)
set_option maxRecDepth 100000 in
set_option maxHeartbeats 4000000 in
theorem l_way {X : XT} {G : GG} {kn : Nat} {Q : State → Prop} {g0 : MM} (C : Cx X G mX9_way 7 0 0 (NN kn))  (K : ∀ g : MM, (fun i g => g = fillM g0 89 0 i (g0 92)) 56 g → Vw X G mX9_way.2.2.2.1 0 0 Q (NN kn) (shF kn) g 56 [some (.ref (G.1 + 85)), some (.int 1), some (.int (nI 56))] []) : ∀ (m i : Nat) (g : MM), i + m = 56 → (fun i g => g = fillM g0 89 0 i (g0 92)) i g → Vw X G mX9_way.2.2.2.1 0 0 Q (NN kn) (shF kn) g 32 [some (.ref (G.1 + 85)), some (.int 1), some (.int (nI i))] [] := by
  intro m
  induction m with
  | zero =>
    intro i g hm hg
    obtain rfl : 56 = i := by omega
    subst hg
    refine r_iload_n (pc := 32) C dX9_way_32 rfl ?_
    refine r_bipush (pc := 33) C (56) dX9_way_33 (by decide) ?_
    refine q_ge (pc := 35) C 56 56 56 rfl rfl (by omega) (by omega) dX9_way_35 (by decide) (fun c35 => ?_) (fun c35 => ?_)
    · exact K _ rfl
    · exact absurd c35 (by omega)
  | succ m ih =>
    intro i g hm hg
    subst hg
    refine r_iload_n (pc := 32) C dX9_way_32 rfl ?_
    refine r_bipush (pc := 33) C (56) dX9_way_33 (by decide) ?_
    refine q_ge (pc := 35) C i 56 56 rfl rfl (by omega) (by omega) dX9_way_35 (by decide) (fun c35 => ?_) (fun c35 => ?_)
    · exact absurd c35 (by omega)
    · refine r_aload_n (pc := 38) C dX9_way_38 rfl ?_
      refine r_getr (pc := 39) C fX9_19 dX9_way_39 (s_85 _) rfl rfl ?_
      refine r_iload_n (pc := 42) C dX9_way_42 rfl ?_
      refine r_aload_n (pc := 43) C dX9_way_43 rfl ?_
      refine r_getr (pc := 44) C fX9_28 dX9_way_44 (s_85 _) rfl rfl ?_
      refine r_iload_n (pc := 47) C dX9_way_47 rfl ?_
      refine q_iald (pc := 48) C i dX9_way_48 (s_92 _) (sn_92 _) rfl (by omega) (by decide) ?_
      refine q_iast (pc := 49) C i dX9_way_49 (s_89 _) (sn_89 _) rfl (by omega) (by decide) ?_
      refine r_iinc (pc := 50) C (nI (i + 1)) dX9_way_50 rfl (nI_inc _) (by decide) rfl ?_
      refine r_goto (pc := 53) C 32 dX9_way_53 (by decide) ?_
      refine ih (i + 1) _ (by omega) ?_
      exact fillM_step0 (fillM_ne (by decide))
set_option maxRecDepth 100000 in
set_option maxHeartbeats 4000000 in
theorem c_X9_way {G : GG} {kn : Nat} {f : MM} {len : Nat} (hlen : len ≤ 120) (hl : f 85 8 = nI len) : RI G mX9_way 7 kn [.ref (G.1 + 85)] f (fun v g => PoWay f (parseS (f 91) len (fun t => if t < 56 then 0 else f 92 t)) v g) := by
  refine Ct.of [some (.ref (G.1 + 85)), none, none] rfl (by decide +kernel) rfl (Nat.le_of_ble_eq_true rfl) rfl ?_
  intro X C
  refine r_aload_n (pc := 0) C dX9_way_0 rfl ?_
  refine q_vI (pc := 1) C kX9_147 dX9_way_1 (c_X9_readWay hlen rfl hl) (s_85 _) rfl rfl (Nat.le_of_ble_eq_true rfl) (by decide) ⟨by decide, by decide⟩ ?_
  intro v1 f1 h1
  obtain ⟨a1, h1⟩ := h1
  rcases h1 with ⟨z1, rfl, A1, R1⟩ | ⟨z1, rfl, A1, R1⟩
  · skip
    refine r_istore_n (pc := 4) C dX9_way_4 (by decide) rfl ?_
    refine r_aload_n (pc := 5) C dX9_way_5 rfl ?_
    refine r_iconst (pc := 6) C (0) dX9_way_6 (by decide) ?_
    refine r_put (pc := 7) C fX9_90 ftX9_8 dX9_way_7 (s_85 _) rfl ?_
    refine r_iload_n (pc := 10) C dX9_way_10 rfl ?_
    refine r_if_ne (pc := 11) C 30 dX9_way_11 (by decide) (fun c11 => ?_) (fun c11 => ?_)
    · refine r_iconst (pc := 30) C (0) dX9_way_30 (by decide) ?_
      refine r_istore_n (pc := 31) C dX9_way_31 (by decide) rfl ?_
      refine l_way (g0 := u2 f1 85 8 0) C ?_ 56 0 _ rfl fillM_0.symm
      intro g hg
      subst hg
      refine r_aload_n (pc := 56) C dX9_way_56 rfl ?_
      refine r_iconst (pc := 57) C (1) dX9_way_57 (by decide) ?_
      refine r_putz (pc := 58) C fX9_154 ftX9_4 dX9_way_58 (s_85 _) rfl (Or.inr rfl) ?_
      refine r_aload_n (pc := 61) C dX9_way_61 rfl ?_
      refine r_iconst (pc := 62) C (0) dX9_way_62 (by decide) ?_
      refine r_put (pc := 63) C fX9_158 ftX9_18 dX9_way_63 (s_85 _) rfl ?_
      refine r_aload_n (pc := 66) C dX9_way_66 rfl ?_
      refine r_getr (pc := 67) C fX9_19 dX9_way_67 (s_85 _) rfl rfl ?_
      refine r_bipush (pc := 70) C (13) dX9_way_70 (by decide) ?_
      refine q_iald (pc := 72) C 13 dX9_way_72 (s_89 _) (sn_89 _) rfl (by omega) (by decide) ?_
      refine q_iret (pc := 73) C dX9_way_73 rfl ?_
      refine Or.inr ⟨z1, ?_, ?_, ?_, ?_, ?_, ?_, ?_⟩
      · rw [← R1]; simp [u2, fillM]
      · intro t ht
        rw [← R1]; simp [u2, fillM, ht]
      · simp [u2]
      · simp [u2]
      · simp [u2, fillM]
      · simp [u2, fillM]; exact a1 85 9 (by omega) (by decide)
      · intro k b h1 h2 h3
        rw [← a1 k b (fun q => h1 ⟨q.1, Or.inr (Or.inr (by omega))⟩) h2]
        simp only [u2]
        rw [if_neg (fun q => h1 ⟨q.1, by omega⟩), if_neg (fun q => h1 ⟨q.1, by omega⟩)]
        by_cases hk : k = 89
        · subst hk
          rw [fillM_out (by omega)]; simp [u2]
        · rw [fillM_ne hk]
          simp only [u2]
          rw [if_neg (fun q => h1 ⟨q.1, by omega⟩)]
    · exact absurd c11 (by decide)
  · skip
    refine r_istore_n (pc := 4) C dX9_way_4 (by decide) rfl ?_
    refine r_aload_n (pc := 5) C dX9_way_5 rfl ?_
    refine r_iconst (pc := 6) C (0) dX9_way_6 (by decide) ?_
    refine r_put (pc := 7) C fX9_90 ftX9_8 dX9_way_7 (s_85 _) rfl ?_
    refine r_iload_n (pc := 10) C dX9_way_10 rfl ?_
    refine r_if_ne (pc := 11) C 30 dX9_way_11 (by decide) (fun c11 => ?_) (fun c11 => ?_)
    · exact absurd rfl c11
    · refine r_aload_n (pc := 14) C dX9_way_14 rfl ?_
      refine r_aload_n (pc := 15) C dX9_way_15 rfl ?_
      refine r_get (pc := 16) C fX9_117 dX9_way_16 (s_85 _) rfl ?_
      refine r_put (pc := 19) C fX9_150 ftX9_9 dX9_way_19 (s_85 _) rfl ?_
      refine r_ldc (pc := 22) C (-1000100) kX9_153 dX9_way_22 ?_
      refine r_aload_n (pc := 24) C dX9_way_24 rfl ?_
      refine r_get (pc := 25) C fX9_101 dX9_way_25 (s_85 _) rfl ?_
      refine r_isub (pc := 28) C dX9_way_28 ?_
      refine q_iret (pc := 29) C dX9_way_29 rfl ?_
      refine Or.inl ⟨z1, ?_, ?_, ?_, ?_⟩
      · simp [u2, R1]
      · simp [u2, A1]
      · simp [u2]
      · intro k b h1 h2
        rw [← a1 k b (fun q => h1 ⟨q.1, by omega⟩) h2]
        simp only [u2]
        rw [if_neg (fun q => h1 ⟨q.1, by omega⟩), if_neg (fun q => h1 ⟨q.1, by omega⟩)]
