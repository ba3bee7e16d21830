/-! THE REFERENCE: whose sack to whom -/
def sackP (n : Nat) (st : Nat → Int32) (l : List Nat) : Nat → Int32 := fun k => if 26 ≤ k ∧ k < 26 + n then st (26 + l.getD (k - 26) 0) else st k
def saV (n L g : Nat) (st : Nat → Int32) (l : List Nat) : Int32 := lastI (hutI n L (allI n) (L - g) g (sackP n st l)) (allI n) n
def saI (n : Nat) (v : List Nat → Int32) : Nat → List Nat → Int32 → List Nat → Int32 × List Nat
  | 0, _, le, bl => (le, bl)
  | m + 1, l, le, bl => match nxtL n l with
    | none => if le < 0 then (v l, l) else if le ≤ v l then (le, bl) else (v l, l)
    | some l' => if le < 0 then saI n v m l' (v l) l else if le ≤ v l then saI n v m l' le bl else saI n v m l' (v l) l
def R_sacks (f : MM) (n L g : Nat) (w : Int32) : Int32 := if f 85 4 = 0 then -1000002 else if inR1 w (-1) ((n : Int) - 1) = true then (fun s => if 0 ≤ w then nI (s.2.getD (tn w) 0) else s.1) (saI n (saV n L g (f 89)) 720 (List.range n) (-1) []) else -1000001
theorem ends_in {n m : Nat} {l : List Nat} (h : ends n (m + 1) l = true) : l.length = n ∧ (∀ t, t < n → l.getD t 0 < n) ∧ (∀ l', nxtL n l = some l' → ends n m l' = true) := by
  rw [ends] at h
  simp only [Bool.and_eq_true, beq_iff_eq] at h
  obtain ⟨⟨h1, h2⟩, h3⟩ := h
  refine ⟨h1, fun t ht => ?_, fun l' hl => ?_⟩
  · have := List.all_eq_true.mp h2 (l[t]'(by omega)) (List.getElem_mem _)
    rw [List.getD_eq_getElem?_getD, List.getElem?_eq_getElem (by omega)]
    exact of_decide_eq_true this
  · rw [hl] at h3; exact h3
set_option maxRecDepth 100000 in
set_option maxHeartbeats 4000000 in
theorem l_sacks0 {X : XT} {G : GG} {kn : Nat} {Q : State → Prop} {f : MM} {n : Nat} {a : Int32} (C : Cx X G mX9_sacks 6 0 0 (NN kn)) (hn : n ≤ 6) (K : ∀ g : MM, (fun i g => g = fillM f 97 0 i nI) n g → Vw X G mX9_sacks.2.2.2.1 0 0 Q (NN kn) (shF kn) g 56 [some (.ref (G.1 + 85)), some (.int a), some (.int (nI n)), some (.int (nI n)), none, none, none, none] []) : ∀ (m i : Nat) (g : MM), i + m = n → (fun i g => g = fillM f 97 0 i nI) i g → Vw X G mX9_sacks.2.2.2.1 0 0 Q (NN kn) (shF kn) g 38 [some (.ref (G.1 + 85)), some (.int a), some (.int (nI n)), some (.int (nI i)), none, none, none, none] [] := by
  intro m
  induction m with
  | zero =>
    intro i g hm hg
    obtain rfl : n = i := by omega
    subst hg
    refine r_iload_n (pc := 38) C dX9_sacks_38 rfl ?_
    refine r_iload_n (pc := 39) C dX9_sacks_39 rfl ?_
    refine q_ge (pc := 40) C n n 56 rfl rfl (by omega) (by omega) dX9_sacks_40 (by decide) (fun c40 => ?_) (fun c40 => ?_)
    · exact K _ rfl
    · exact absurd c40 (by omega)
  | succ m ih =>
    intro i g hm hg
    subst hg
    refine r_iload_n (pc := 38) C dX9_sacks_38 rfl ?_
    refine r_iload_n (pc := 39) C dX9_sacks_39 rfl ?_
    refine q_ge (pc := 40) C i n 56 rfl rfl (by omega) (by omega) dX9_sacks_40 (by decide) (fun c40 => ?_) (fun c40 => ?_)
    · exact absurd c40 (by omega)
    · refine r_aload_n (pc := 43) C dX9_sacks_43 rfl ?_
      refine r_getr (pc := 44) C fX9_43 dX9_sacks_44 (s_85 _) rfl rfl ?_
      refine r_iload_n (pc := 47) C dX9_sacks_47 rfl ?_
      refine r_iload_n (pc := 48) C dX9_sacks_48 rfl ?_
      refine q_iast (pc := 49) C i dX9_sacks_49 (s_97 _) (sn_97 _) rfl (by omega) (by decide) ?_
      refine r_iinc (pc := 50) C (nI (i + 1)) dX9_sacks_50 rfl (nI_inc _) (by decide) rfl ?_
      refine r_goto (pc := 53) C 38 dX9_sacks_53 (by decide) ?_
      refine ih (i + 1) _ (by omega) ?_
      exact fillM_step0 rfl
set_option maxRecDepth 100000 in
set_option maxHeartbeats 4000000 in
theorem l_sacks1 {X : XT} {G : GG} {kn : Nat} {Q : State → Prop} {g0 : MM} {n : Nat} {l : List Nat} {a le : Int32} (C : Cx X G mX9_sacks 6 0 0 (NN kn)) (hn : n ≤ 6) (hr : rowIs g0 97 n l) (K : ∀ g : MM, (fun i g => g = fillM g0 89 26 i (fun w => g0 94 (26 + l.getD w 0))) n g → Vw X G mX9_sacks.2.2.2.1 0 0 Q (NN kn) (shF kn) g 110 [some (.ref (G.1 + 85)), some (.int a), some (.int (nI n)), some (.int le), none, some (.int (nI n)), none, none] []) : ∀ (m i : Nat) (g : MM), i + m = n → (fun i g => g = fillM g0 89 26 i (fun w => g0 94 (26 + l.getD w 0))) i g → Vw X G mX9_sacks.2.2.2.1 0 0 Q (NN kn) (shF kn) g 73 [some (.ref (G.1 + 85)), some (.int a), some (.int (nI n)), some (.int le), none, some (.int (nI i)), none, none] [] := by
  intro m
  induction m with
  | zero =>
    intro i g hm hg
    obtain rfl : n = i := by omega
    subst hg
    refine r_iload (pc := 73) C dX9_sacks_73 rfl ?_
    refine r_iload_n (pc := 75) C dX9_sacks_75 rfl ?_
    refine q_ge (pc := 76) C n n 110 rfl rfl (by omega) (by omega) dX9_sacks_76 (by decide) (fun c76 => ?_) (fun c76 => ?_)
    · exact K _ rfl
    · exact absurd c76 (by omega)
  | succ m ih =>
    intro i g hm hg
    subst hg
    refine r_iload (pc := 73) C dX9_sacks_73 rfl ?_
    refine r_iload_n (pc := 75) C dX9_sacks_75 rfl ?_
    refine q_ge (pc := 76) C i n 110 rfl rfl (by omega) (by omega) dX9_sacks_76 (by decide) (fun c76 => ?_) (fun c76 => ?_)
    · exact absurd c76 (by omega)
    · refine r_aload_n (pc := 79) C dX9_sacks_79 rfl ?_
      refine r_getr (pc := 80) C fX9_19 dX9_sacks_80 (s_85 _) rfl rfl ?_
      refine r_bipush (pc := 83) C (26) dX9_sacks_83 (by decide) ?_
      refine r_iload (pc := 85) C dX9_sacks_85 rfl ?_
      refine r_iadd (pc := 87) C dX9_sacks_87 ?_
      refine r_aload_n (pc := 88) C dX9_sacks_88 rfl ?_
      refine r_getr (pc := 89) C fX9_34 dX9_sacks_89 (s_85 _) rfl rfl ?_
      refine r_bipush (pc := 92) C (26) dX9_sacks_92 (by decide) ?_
      refine r_aload_n (pc := 94) C dX9_sacks_94 rfl ?_
      refine r_getr (pc := 95) C fX9_43 dX9_sacks_95 (s_85 _) rfl rfl ?_
      refine r_iload (pc := 98) C dX9_sacks_98 rfl ?_
      refine q_iald (pc := 100) C i dX9_sacks_100 (s_97 _) (sn_97 _) rfl (by omega) (by decide) ?_
      have hb := hr.2.1 i (by omega)
      refine r_iadd (pc := 101) C dX9_sacks_101 ?_
      refine q_iald (pc := 102) C (26 + (l.getD i 0)) dX9_sacks_102 (s_94 _) (sn_94 _) (nI_addE rfl ((fillM_ne (by decide)).trans (hr.2.2 i (by omega)))) (by omega) (by decide) ?_
      refine q_iast (pc := 103) C (26 + i) dX9_sacks_103 (s_89 _) (sn_89 _) (nI_add 26 i) (by omega) (by decide) ?_
      refine r_iinc (pc := 104) C (nI (i + 1)) dX9_sacks_104 rfl (nI_inc _) (by decide) rfl ?_
      refine r_goto (pc := 107) C 73 dX9_sacks_107 (by decide) ?_
      refine ih (i + 1) _ (by omega) ?_
      exact fillM_step (fillM_ne (by decide))
set_option maxRecDepth 100000 in
set_option maxHeartbeats 4000000 in
theorem l_sacks2 {X : XT} {G : GG} {kn : Nat} {Q : State → Prop} {g0 : MM} {n : Nat} {a le : Int32} (C : Cx X G mX9_sacks 6 0 0 (NN kn)) (hn : n ≤ 6) (K : ∀ g : MM, (fun i g => g = fillM g0 98 0 i (g0 97)) n g → Vw X G mX9_sacks.2.2.2.1 0 0 Q (NN kn) (shF kn) g 187 [some (.ref (G.1 + 85)), some (.int a), some (.int (nI n)), some (.int le), none, none, some (.int 1), some (.int (nI n))] []) : ∀ (m i : Nat) (g : MM), i + m = n → (fun i g => g = fillM g0 98 0 i (g0 97)) i g → Vw X G mX9_sacks.2.2.2.1 0 0 Q (NN kn) (shF kn) g 156 [some (.ref (G.1 + 85)), some (.int a), some (.int (nI n)), some (.int le), none, none, some (.int 1), some (.int (nI i))] [] := by
  intro m
  induction m with
  | zero =>
    intro i g hm hg
    obtain rfl : n = i := by omega
    subst hg
    refine r_iload (pc := 156) C dX9_sacks_156 rfl ?_
    refine r_iload_n (pc := 158) C dX9_sacks_158 rfl ?_
    refine q_ge (pc := 159) C n n 187 rfl rfl (by omega) (by omega) dX9_sacks_159 (by decide) (fun c159 => ?_) (fun c159 => ?_)
    · exact K _ rfl
    · exact absurd c159 (by omega)
  | succ m ih =>
    intro i g hm hg
    subst hg
    refine r_iload (pc := 156) C dX9_sacks_156 rfl ?_
    refine r_iload_n (pc := 158) C dX9_sacks_158 rfl ?_
    refine q_ge (pc := 159) C i n 187 rfl rfl (by omega) (by omega) dX9_sacks_159 (by decide) (fun c159 => ?_) (fun c159 => ?_)
    · exact absurd c159 (by omega)
    · refine r_iload (pc := 162) C dX9_sacks_162 rfl ?_
      refine r_if_eq (pc := 164) C 187 dX9_sacks_164 (by decide) (fun c164 => ?_) (fun c164 => ?_)
      · exact absurd c164 (by decide)
      · refine r_aload_n (pc := 167) C dX9_sacks_167 rfl ?_
        refine r_getr (pc := 168) C fX9_46 dX9_sacks_168 (s_85 _) rfl rfl ?_
        refine r_iload (pc := 171) C dX9_sacks_171 rfl ?_
        refine r_aload_n (pc := 173) C dX9_sacks_173 rfl ?_
        refine r_getr (pc := 174) C fX9_43 dX9_sacks_174 (s_85 _) rfl rfl ?_
        refine r_iload (pc := 177) C dX9_sacks_177 rfl ?_
        refine q_iald (pc := 179) C i dX9_sacks_179 (s_97 _) (sn_97 _) rfl (by omega) (by decide) ?_
        refine q_iast (pc := 180) C i dX9_sacks_180 (s_98 _) (sn_98 _) rfl (by omega) (by decide) ?_
        refine r_iinc (pc := 181) C (nI (i + 1)) dX9_sacks_181 rfl (nI_inc _) (by decide) rfl ?_
        refine r_goto (pc := 184) C 156 dX9_sacks_184 (by decide) ?_
        refine ih (i + 1) _ (by omega) ?_
        exact fillM_step0 (fillM_ne (by decide))
set_option maxRecDepth 100000 in
set_option maxHeartbeats 4000000 in
theorem l_sacks {X : XT} {G : GG} {kn : Nat} {Q : State → Prop} {f : MM} {n L g : Nat} {a : Int32} {R : Int32 × List Nat} (C : Cx X G mX9_sacks 6 0 0 (NN kn)) (hn : n ≤ 6) (hL : L ≤ 8) (hg : g ≤ L) (h13 : f 89 13 = nI n) (h8 : f 89 8 = nI L) (h9 : f 89 9 = nI g) (K : ∀ (le : Int32) (bl : List Nat) (g2 : MM), agF f g2 → rowIs g2 98 n bl → (le, bl) = R → Vw X G mX9_sacks.2.2.2.1 0 0 Q (NN kn) (shF kn) g2 197 [some (.ref (G.1 + 85)), some (.int a), some (.int (nI n)), some (.int le), none, none, none, none] []) : ∀ (m : Nat) (l : List Nat) (le : Int32) (bl : List Nat) (g2 : MM), ends n m l = true → agF f g2 → rowIs g2 97 n l → (le < 0 ∨ rowIs g2 98 n bl) → saI n (saV n L g (f 89)) m l le bl = R → Vw X G mX9_sacks.2.2.2.1 0 0 Q (NN kn) (shF kn) g2 61 [some (.ref (G.1 + 85)), some (.int a), some (.int (nI n)), some (.int le), some (.int 1), none, none, none] [] := by
  intro m
  induction m with
  | zero => intro l le bl g2 h; exact absurd h (by simp [ends])
  | succ m ih =>
    intro l le bl g2 hE hag hr hb hR
    have he := ends_in hE
    refine r_iload (pc := 61) C dX9_sacks_61 rfl ?_
    refine r_if_eq (pc := 63) C 197 dX9_sacks_63 (by decide) (fun c63 => ?_) (fun c63 => ?_)
    · exact absurd c63 (by decide)
    · refine r_aload_n (pc := 66) C dX9_sacks_66 rfl ?_
      refine q_vVf (pc := 67) C kX9_203 dX9_sacks_67 (c_X9_putAside) (s_85 _) rfl rfl (Nat.le_of_ble_eq_true rfl) (by decide) ⟨by decide, by decide⟩ ?_
      refine q_f (f' := thM g2) rfl ?_
      have e89 : thM g2 89 = f 89 := thM_89.trans hag.st
      have hr3 : rowIs (thM g2) 97 n l := ⟨hr.1, hr.2.1, fun t ht => (fillM_ne (by decide)).trans (hr.2.2 t ht)⟩
      refine r_iconst (pc := 70) C (0) dX9_sacks_70 (by decide) ?_
      refine r_istore (pc := 71) C dX9_sacks_71 (by decide) rfl ?_
      refine v_drop _ (by repeat (first | exact trivial | exact rfl | constructor)) (l_sacks1 (g0 := thM g2) (n := n) (l := l) C hn hr3 (fun g3 hg3 => ?_) n 0 _ (by omega) fillM_0.symm)
      subst hg3
      have eS : (fillM (thM g2) 89 26 n (fun w => thM g2 94 (26 + l.getD w 0))) 89 = sackP n (f 89) l := by
        funext t
        unfold sackP
        by_cases ht : 26 ≤ t ∧ t < 26 + n
        · rw [if_pos ht, fillM_in (by omega) (by omega), ← hag.st]
          have := he.2.1 (t - 26) (by omega)
          exact fillM_in (by omega) (by omega)
        · rw [if_neg ht, fillM_out (by omega), e89]
      refine r_aload_n (pc := 110) C dX9_sacks_110 rfl ?_
      refine r_aload_n (pc := 111) C dX9_sacks_111 rfl ?_
      refine q_vIf (pc := 112) C kX9_187 dX9_sacks_112 (c_X9_all (n := n) (by rw [eS]; exact (if_neg (by omega)).trans h13)) (s_85 _) rfl rfl (Nat.le_of_ble_eq_true rfl) (by decide) ⟨by decide, by decide⟩ ?_
      refine q_vIf (pc := 115) C kX9_206 dX9_sacks_115 (c_X9_toHut (n := n) (L := L) (g := g) hn hL hg (by rw [eS]; exact (if_neg (by omega)).trans h13) (by rw [eS]; exact (if_neg (by omega)).trans h8) (by rw [eS]; exact (if_neg (by omega)).trans h9)) (s_85 _) rfl rfl (Nat.le_of_ble_eq_true rfl) (by decide) ⟨by decide, by decide⟩ ?_
      refine q_val ((saV n L g (f 89)) l) (by rw [eS]; rfl) ?_
      refine r_istore (pc := 118) C dX9_sacks_118 (by decide) rfl ?_
      refine r_aload_n (pc := 120) C dX9_sacks_120 rfl ?_
      refine q_vVf (pc := 121) C kX9_209 dX9_sacks_121 (c_X9_takeBack) (s_85 _) rfl rfl (Nat.le_of_ble_eq_true rfl) (by decide) ⟨by decide, by decide⟩ ?_
      obtain ⟨g4, hg4⟩ : ∃ g4, g4 = fillM (va_up (u2 (fillM (thM g2) 89 26 n (fun w => thM g2 94 (26 + l.getD w 0))) 85 16 (allI n)) 89 (hutI n L (allI n) (L - g) g ((fillM (thM g2) 89 26 n (fun w => thM g2 94 (26 + l.getD w 0))) 89))) 89 0 56 (va_up (u2 (fillM (thM g2) 89 26 n (fun w => thM g2 94 (26 + l.getD w 0))) 85 16 (allI n)) 89 (hutI n L (allI n) (L - g) g ((fillM (thM g2) 89 26 n (fun w => thM g2 94 (26 + l.getD w 0))) 89)) 94) := ⟨_, rfl⟩
      refine q_f (f' := g4) hg4.symm ?_
      have hag4 : agF f g4 := by
        rw [hg4]
        refine agF.back (fun t ht => ?_) (fun t ht => ?_) (fun k b k1 k2 k3 => ?_)
        · rw [up_ne (by decide), u2_row (by decide), fillM_ne (by decide), ← hag.st]; exact fillM_in (by omega) (by omega)
        · rw [up_at, hutI_hi (by omega) hn, eS]; exact if_neg (by omega)
        · rw [up_ne k1]
          simp only [u2]
          rw [if_neg k2, fillM_ne k1, ← hag k b k2 k3]; exact fillM_ne (by omega)
      have hr4 : rowIs g4 97 n l := ⟨hr.1, hr.2.1, fun t ht => by rw [hg4, fillM_ne (by decide), up_ne (by decide), u2_row (by decide), fillM_ne (by decide)]; exact hr3.2.2 t ht⟩
      have h98 : ∀ t, g4 98 t = g2 98 t := fun t => by rw [hg4, fillM_ne (by decide), up_ne (by decide), u2_row (by decide), fillM_ne (by decide)]; exact fillM_ne (by decide)
      clear hg4
      refine r_iload_n (pc := 124) C dX9_sacks_124 rfl ?_
      refine r_if_lt (pc := 125) C 134 dX9_sacks_125 (by decide) (fun c125 => ?_) (fun c125 => ?_)
      · refine r_iconst (pc := 134) C (1) dX9_sacks_134 (by decide) ?_
        refine r_goto (pc := 135) C 139 dX9_sacks_135 (by decide) ?_
        refine r_istore (pc := 139) C dX9_sacks_139 (by decide) rfl ?_
        refine r_iload (pc := 141) C dX9_sacks_141 rfl ?_
        refine r_if_eq (pc := 143) C 151 dX9_sacks_143 (by decide) (fun c143 => ?_) (fun c143 => ?_)
        · exact absurd c143 (by decide)
        · refine r_iload (pc := 146) C dX9_sacks_146 rfl ?_
          refine r_goto (pc := 148) C 152 dX9_sacks_148 (by decide) ?_
          refine r_istore_n (pc := 152) C dX9_sacks_152 (by decide) rfl ?_
          refine r_iconst (pc := 153) C (0) dX9_sacks_153 (by decide) ?_
          refine r_istore (pc := 154) C dX9_sacks_154 (by decide) rfl ?_
          refine v_drop _ (by repeat (first | exact trivial | exact rfl | constructor)) (l_sacks2 (g0 := g4) (n := n) C hn (fun g5 hg5 => ?_) n 0 _ (by omega) fillM_0.symm)
          have hag5 : agF f g5 := fun k b k1 k2 => by rw [hg5, fillM_ne (by omega)]; exact hag4 k b k1 k2
          have hr5 : rowIs g5 97 n l := ⟨hr4.1, hr4.2.1, fun t ht => by rw [hg5, fillM_ne (by decide)]; exact hr4.2.2 t ht⟩
          have hb5 : rowIs g5 98 n l := ⟨hr4.1, hr4.2.1, fun t ht => by rw [hg5, fillM_in (by omega) (by omega)]; exact hr4.2.2 t ht⟩
          clear hg5
          refine r_aload_n (pc := 187) C dX9_sacks_187 rfl ?_
          refine r_iload_n (pc := 188) C dX9_sacks_188 rfl ?_
          refine q_vI (pc := 189) C kX9_225 dX9_sacks_189 (c_X9_nextRow (n := n) (l := l) hn hr5) (s_85 _) rfl rfl (Nat.le_of_ble_eq_true rfl) (by decide) ⟨by decide, by decide⟩ ?_
          intro v189 f189 h189
          rcases h189 with ⟨hx, rfl, rfl⟩ | ⟨l2, hx, rfl, hr6, ho6⟩
          · skip
            have hb6 := hb5
            have hag6 := hag5
            refine r_istore (pc := 192) C dX9_sacks_192 (by decide) rfl ?_
            refine r_goto (pc := 194) C 61 dX9_sacks_194 (by decide) ?_
            refine r_iload (pc := 61) C dX9_sacks_61 rfl ?_
            refine r_if_eq (pc := 63) C 197 dX9_sacks_63 (by decide) (fun c63 => ?_) (fun c63 => ?_)
            · exact v_drop _ (by repeat (first | exact trivial | exact rfl | constructor)) (K ((saV n L g (f 89)) l) l _ hag6 hb6 (by rw [← hR, saI, hx]; simp [c125]))
            · exact absurd rfl c63
          · skip
            have hag6 : agF f f189 := fun k b k1 k2 => (ho6 k b (by omega)).trans (hag5 k b k1 k2)
            have hb6 : rowIs f189 98 n l := ⟨hb5.1, hb5.2.1, fun t ht => (ho6 98 t (by decide)).trans (hb5.2.2 t ht)⟩
            refine r_istore (pc := 192) C dX9_sacks_192 (by decide) rfl ?_
            refine r_goto (pc := 194) C 61 dX9_sacks_194 (by decide) ?_
            exact v_drop _ (by repeat (first | exact trivial | exact rfl | constructor)) (ih l2 ((saV n L g (f 89)) l) l _ (he.2.2 l2 hx) hag6 hr6 (Or.inr hb6) (by rw [← hR, saI, hx]; simp [c125]))
      · refine r_iload (pc := 128) C dX9_sacks_128 rfl ?_
        refine r_iload_n (pc := 130) C dX9_sacks_130 rfl ?_
        refine r_icmp_ge (pc := 131) C 138 dX9_sacks_131 (by decide) (fun c131 => ?_) (fun c131 => ?_)
        · refine r_iconst (pc := 138) C (0) dX9_sacks_138 (by decide) ?_
          refine r_istore (pc := 139) C dX9_sacks_139 (by decide) rfl ?_
          refine r_iload (pc := 141) C dX9_sacks_141 rfl ?_
          refine r_if_eq (pc := 143) C 151 dX9_sacks_143 (by decide) (fun c143 => ?_) (fun c143 => ?_)
          · refine r_iload_n (pc := 151) C dX9_sacks_151 rfl ?_
            refine r_istore_n (pc := 152) C dX9_sacks_152 (by decide) rfl ?_
            refine r_iconst (pc := 153) C (0) dX9_sacks_153 (by decide) ?_
            refine r_istore (pc := 154) C dX9_sacks_154 (by decide) rfl ?_
            refine r_iload (pc := 156) C dX9_sacks_156 rfl ?_
            refine r_iload_n (pc := 158) C dX9_sacks_158 rfl ?_
            refine q_ge (pc := 159) C 0 n 187 rfl rfl (by omega) (by omega) dX9_sacks_159 (by decide) (fun c159 => ?_) (fun c159 => ?_)
            · have hb5 : rowIs g4 98 n bl := by
                rcases hb with z | z
                · exact absurd z c125
                · exact ⟨z.1, z.2.1, fun t ht => (h98 t).trans (z.2.2 t ht)⟩
              have hag5 := hag4
              have hr5 := hr4
              refine v_drop [some (.ref (G.1 + 85)), some (.int a), some (.int (nI n)), some (.int le), none, none, none, none] (by repeat (first | exact trivial | exact rfl | constructor)) ?_
              refine r_aload_n (pc := 187) C dX9_sacks_187 rfl ?_
              refine r_iload_n (pc := 188) C dX9_sacks_188 rfl ?_
              refine q_vI (pc := 189) C kX9_225 dX9_sacks_189 (c_X9_nextRow (n := n) (l := l) hn hr5) (s_85 _) rfl rfl (Nat.le_of_ble_eq_true rfl) (by decide) ⟨by decide, by decide⟩ ?_
              intro v189 f189 h189
              rcases h189 with ⟨hx, rfl, rfl⟩ | ⟨l2, hx, rfl, hr6, ho6⟩
              · skip
                have hb6 := hb5
                have hag6 := hag5
                refine r_istore (pc := 192) C dX9_sacks_192 (by decide) rfl ?_
                refine r_goto (pc := 194) C 61 dX9_sacks_194 (by decide) ?_
                refine r_iload (pc := 61) C dX9_sacks_61 rfl ?_
                refine r_if_eq (pc := 63) C 197 dX9_sacks_63 (by decide) (fun c63 => ?_) (fun c63 => ?_)
                · exact v_drop _ (by repeat (first | exact trivial | exact rfl | constructor)) (K le bl _ hag6 hb6 (by rw [← hR, saI, hx]; simp [c125, c131]))
                · exact absurd rfl c63
              · skip
                have hag6 : agF f f189 := fun k b k1 k2 => (ho6 k b (by omega)).trans (hag5 k b k1 k2)
                have hb6 : rowIs f189 98 n bl := ⟨hb5.1, hb5.2.1, fun t ht => (ho6 98 t (by decide)).trans (hb5.2.2 t ht)⟩
                refine r_istore (pc := 192) C dX9_sacks_192 (by decide) rfl ?_
                refine r_goto (pc := 194) C 61 dX9_sacks_194 (by decide) ?_
                exact v_drop _ (by repeat (first | exact trivial | exact rfl | constructor)) (ih l2 le bl _ (he.2.2 l2 hx) hag6 hr6 (Or.inr hb6) (by rw [← hR, saI, hx]; simp [c125, c131]))
            · refine r_iload (pc := 162) C dX9_sacks_162 rfl ?_
              refine r_if_eq (pc := 164) C 187 dX9_sacks_164 (by decide) (fun c164 => ?_) (fun c164 => ?_)
              · have hb5 : rowIs g4 98 n bl := by
                  rcases hb with z | z
                  · exact absurd z c125
                  · exact ⟨z.1, z.2.1, fun t ht => (h98 t).trans (z.2.2 t ht)⟩
                have hag5 := hag4
                have hr5 := hr4
                refine v_drop [some (.ref (G.1 + 85)), some (.int a), some (.int (nI n)), some (.int le), none, none, none, none] (by repeat (first | exact trivial | exact rfl | constructor)) ?_
                refine r_aload_n (pc := 187) C dX9_sacks_187 rfl ?_
                refine r_iload_n (pc := 188) C dX9_sacks_188 rfl ?_
                refine q_vI (pc := 189) C kX9_225 dX9_sacks_189 (c_X9_nextRow (n := n) (l := l) hn hr5) (s_85 _) rfl rfl (Nat.le_of_ble_eq_true rfl) (by decide) ⟨by decide, by decide⟩ ?_
                intro v189 f189 h189
                rcases h189 with ⟨hx, rfl, rfl⟩ | ⟨l2, hx, rfl, hr6, ho6⟩
                · skip
                  have hb6 := hb5
                  have hag6 := hag5
                  refine r_istore (pc := 192) C dX9_sacks_192 (by decide) rfl ?_
                  refine r_goto (pc := 194) C 61 dX9_sacks_194 (by decide) ?_
                  refine r_iload (pc := 61) C dX9_sacks_61 rfl ?_
                  refine r_if_eq (pc := 63) C 197 dX9_sacks_63 (by decide) (fun c63 => ?_) (fun c63 => ?_)
                  · exact v_drop _ (by repeat (first | exact trivial | exact rfl | constructor)) (K le bl _ hag6 hb6 (by rw [← hR, saI, hx]; simp [c125, c131]))
                  · exact absurd rfl c63
                · skip
                  have hag6 : agF f f189 := fun k b k1 k2 => (ho6 k b (by omega)).trans (hag5 k b k1 k2)
                  have hb6 : rowIs f189 98 n bl := ⟨hb5.1, hb5.2.1, fun t ht => (ho6 98 t (by decide)).trans (hb5.2.2 t ht)⟩
                  refine r_istore (pc := 192) C dX9_sacks_192 (by decide) rfl ?_
                  refine r_goto (pc := 194) C 61 dX9_sacks_194 (by decide) ?_
                  exact v_drop _ (by repeat (first | exact trivial | exact rfl | constructor)) (ih l2 le bl _ (he.2.2 l2 hx) hag6 hr6 (Or.inr hb6) (by rw [← hR, saI, hx]; simp [c125, c131]))
              · exact absurd rfl c164
          · exact absurd rfl c143
        · refine r_iconst (pc := 134) C (1) dX9_sacks_134 (by decide) ?_
          refine r_goto (pc := 135) C 139 dX9_sacks_135 (by decide) ?_
          refine r_istore (pc := 139) C dX9_sacks_139 (by decide) rfl ?_
          refine r_iload (pc := 141) C dX9_sacks_141 rfl ?_
          refine r_if_eq (pc := 143) C 151 dX9_sacks_143 (by decide) (fun c143 => ?_) (fun c143 => ?_)
          · exact absurd c143 (by decide)
          · refine r_iload (pc := 146) C dX9_sacks_146 rfl ?_
            refine r_goto (pc := 148) C 152 dX9_sacks_148 (by decide) ?_
            refine r_istore_n (pc := 152) C dX9_sacks_152 (by decide) rfl ?_
            refine r_iconst (pc := 153) C (0) dX9_sacks_153 (by decide) ?_
            refine r_istore (pc := 154) C dX9_sacks_154 (by decide) rfl ?_
            refine v_drop _ (by repeat (first | exact trivial | exact rfl | constructor)) (l_sacks2 (g0 := g4) (n := n) C hn (fun g5 hg5 => ?_) n 0 _ (by omega) fillM_0.symm)
            have hag5 : agF f g5 := fun k b k1 k2 => by rw [hg5, fillM_ne (by omega)]; exact hag4 k b k1 k2
            have hr5 : rowIs g5 97 n l := ⟨hr4.1, hr4.2.1, fun t ht => by rw [hg5, fillM_ne (by decide)]; exact hr4.2.2 t ht⟩
            have hb5 : rowIs g5 98 n l := ⟨hr4.1, hr4.2.1, fun t ht => by rw [hg5, fillM_in (by omega) (by omega)]; exact hr4.2.2 t ht⟩
            clear hg5
            refine r_aload_n (pc := 187) C dX9_sacks_187 rfl ?_
            refine r_iload_n (pc := 188) C dX9_sacks_188 rfl ?_
            refine q_vI (pc := 189) C kX9_225 dX9_sacks_189 (c_X9_nextRow (n := n) (l := l) hn hr5) (s_85 _) rfl rfl (Nat.le_of_ble_eq_true rfl) (by decide) ⟨by decide, by decide⟩ ?_
            intro v189 f189 h189
            rcases h189 with ⟨hx, rfl, rfl⟩ | ⟨l2, hx, rfl, hr6, ho6⟩
            · skip
              have hb6 := hb5
              have hag6 := hag5
              refine r_istore (pc := 192) C dX9_sacks_192 (by decide) rfl ?_
              refine r_goto (pc := 194) C 61 dX9_sacks_194 (by decide) ?_
              refine r_iload (pc := 61) C dX9_sacks_61 rfl ?_
              refine r_if_eq (pc := 63) C 197 dX9_sacks_63 (by decide) (fun c63 => ?_) (fun c63 => ?_)
              · exact v_drop _ (by repeat (first | exact trivial | exact rfl | constructor)) (K ((saV n L g (f 89)) l) l _ hag6 hb6 (by rw [← hR, saI, hx]; simp [c125, c131]))
              · exact absurd rfl c63
            · skip
              have hag6 : agF f f189 := fun k b k1 k2 => (ho6 k b (by omega)).trans (hag5 k b k1 k2)
              have hb6 : rowIs f189 98 n l := ⟨hb5.1, hb5.2.1, fun t ht => (ho6 98 t (by decide)).trans (hb5.2.2 t ht)⟩
              refine r_istore (pc := 192) C dX9_sacks_192 (by decide) rfl ?_
              refine r_goto (pc := 194) C 61 dX9_sacks_194 (by decide) ?_
              exact v_drop _ (by repeat (first | exact trivial | exact rfl | constructor)) (ih l2 ((saV n L g (f 89)) l) l _ (he.2.2 l2 hx) hag6 hr6 (Or.inr hb6) (by rw [← hR, saI, hx]; simp [c125, c131]))
theorem inR1_w {x : Int32} {n : Nat} (h : inR1 x (-1) ((n : Int) - 1) = true) (h0 : 0 ≤ x) : ∃ j : Nat, j < n ∧ x = nI j := by
  have h1 := of_decide_eq_true h
  obtain ⟨j, hj, e⟩ := nI_of (x := x) (Int32.not_lt.mpr h0)
  subst e
  rw [nI_toInt hj] at h1
  exact ⟨j, by omega, rfl⟩
theorem c_inS {G : GG} {kn : Nat} {f : MM} {x : Int32} {n : Nat} {b c : Int64} (hn : n ≤ 6) (hb : b = -1) (hc : c = (nI n - 1).toInt64) : CI G mX9_in 1 kn [.long x.toInt64, .long b, .long c] f (b1 (inR1 x (-1) ((n : Int) - 1))) f := by
  have e1 : (nI n - 1).toInt = (n : Int) - 1 := by have := nI_m1 (n := n) (by omega); omega
  have := c_in1 (G := G) (kn := kn) (f := f) (x := x) (lo := -1) (hi := nI n - 1) (b := b) (c := c) (by rw [hb]; decide) hc
  rw [e1] at this
  exact this
set_option maxRecDepth 100000 in
set_option maxHeartbeats 4000000 in
theorem c_X9_sacks {G : GG} {kn : Nat} {f : MM} {n L g : Nat} (hn : n ≤ 6) (hL : L ≤ 8) (hg : g ≤ L) (h13 : f 89 13 = nI n) (h8 : f 89 8 = nI L) (h9 : f 89 9 = nI g) {a : Int32} : RI G mX9_sacks 6 kn [.ref (G.1 + 85), .int a] f (fun v g2 => v = R_sacks f n L g a ∧ agF f g2) := by
  refine Ct.of [some (.ref (G.1 + 85)), some (.int a), none, none, none, none, none, none] rfl (by decide +kernel) rfl (Nat.le_of_ble_eq_true rfl) rfl ?_
  intro X C
  refine r_aload_n (pc := 0) C dX9_sacks_0 rfl ?_
  refine r_get (pc := 1) C fX9_154 dX9_sacks_1 (s_85 _) rfl ?_
  refine r_if_ne (pc := 4) C 10 dX9_sacks_4 (by decide) (fun c4 => ?_) (fun c4 => ?_)
  · refine r_aload_n (pc := 10) C dX9_sacks_10 rfl ?_
    refine r_getr (pc := 11) C fX9_19 dX9_sacks_11 (s_85 _) rfl rfl ?_
    refine r_bipush (pc := 14) C (13) dX9_sacks_14 (by decide) ?_
    refine q_iald (pc := 16) C 13 dX9_sacks_16 (s_89 _) (sn_89 _) rfl (by omega) (by decide) ?_
    refine q_is n h13 ?_
    refine r_istore_n (pc := 17) C dX9_sacks_17 (by decide) rfl ?_
    refine r_iload_n (pc := 18) C dX9_sacks_18 rfl ?_
    refine r_i2l (pc := 19) C dX9_sacks_19 ?_
    refine r_ldc2 (pc := 20) C (-1) kX9_223 dX9_sacks_20 ?_
    refine r_iload_n (pc := 23) C dX9_sacks_23 rfl ?_
    refine r_iconst (pc := 24) C (1) dX9_sacks_24 (by decide) ?_
    refine r_isub (pc := 25) C dX9_sacks_25 ?_
    refine r_i2l (pc := 26) C dX9_sacks_26 ?_
    refine q_sIf (pc := 27) C kX9_66 dX9_sacks_27 (c_inS hn rfl rfl) rfl rfl (Nat.le_of_ble_eq_true rfl) (by decide) ⟨by decide, by decide⟩ ?_
    refine r_if_ne (pc := 30) C 36 dX9_sacks_30 (by decide) (fun c30 => ?_) (fun c30 => ?_)
    · replace c30 := b1_1 c30
      refine r_iconst (pc := 36) C (0) dX9_sacks_36 (by decide) ?_
      refine r_istore_n (pc := 37) C dX9_sacks_37 (by decide) rfl ?_
      refine v_drop _ (by repeat (first | exact trivial | exact rfl | constructor)) (l_sacks0 (f := f) (n := n) C hn (fun g1 hg1 => ?_) n 0 _ (by omega) fillM_0.symm)
      subst hg1
      refine r_iconst (pc := 56) C (-1) dX9_sacks_56 (by decide) ?_
      refine r_istore_n (pc := 57) C dX9_sacks_57 (by decide) rfl ?_
      refine r_iconst (pc := 58) C (1) dX9_sacks_58 (by decide) ?_
      refine r_istore (pc := 59) C dX9_sacks_59 (by decide) rfl ?_
      refine v_drop _ (by repeat (first | exact trivial | exact rfl | constructor)) (l_sacks (f := f) (n := n) (L := L) (g := g) C hn hL hg h13 h8 h9 (fun le bl g2 hag hb hR => ?_) 720 (List.range n) _ [] _ (ends_ok n hn) (fun k b k1 k2 => fillM_ne (by omega)) ⟨by simp, fun t ht => by simp [ht]; omega, fun t ht => by rw [fillM_in (by omega) (by omega)]; simp [ht]⟩ (Or.inl (by decide)) rfl)
      refine r_iload_n (pc := 197) C dX9_sacks_197 rfl ?_
      refine r_if_ge (pc := 198) C 205 dX9_sacks_198 (by decide) (fun c198 => ?_) (fun c198 => ?_)
      · obtain ⟨j, hj, rfl⟩ := inR1_w c30 c198
        have tj : tn (nI j) = j := tn_nI (by omega)
        refine r_aload_n (pc := 205) C dX9_sacks_205 rfl ?_
        refine r_getr (pc := 206) C fX9_46 dX9_sacks_206 (s_85 _) rfl rfl ?_
        refine r_iload_n (pc := 209) C dX9_sacks_209 rfl ?_
        refine q_iald (pc := 210) C j dX9_sacks_210 (s_98 _) (sn_98 _) rfl (by omega) (by decide) ?_
        refine q_val _ (hb.2.2 j hj) ?_
        refine q_iret (pc := 211) C dX9_sacks_211 rfl ?_
        refine ⟨?_, hag⟩
        rw [R_sacks, if_neg c4, if_pos c30, ← hR]
        simp [c198, tj]
      · refine r_iload_n (pc := 201) C dX9_sacks_201 rfl ?_
        refine r_goto (pc := 202) C 211 dX9_sacks_202 (by decide) ?_
        refine q_iret (pc := 211) C dX9_sacks_211 rfl ?_
        refine ⟨?_, hag⟩
        rw [R_sacks, if_neg c4, if_pos c30, ← hR]
        simp [c198]
    · replace c30 := b1_0 c30
      refine r_ldc (pc := 33) C (-1000001) kX9_76 dX9_sacks_33 ?_
      refine q_iret (pc := 35) C dX9_sacks_35 rfl ?_
      exact ⟨by simp [R_sacks, c4, c30], agF.rf⟩
  · refine r_ldc (pc := 7) C (-1000002) kX9_183 dX9_sacks_7 ?_
    refine q_iret (pc := 9) C dX9_sacks_9 rfl ?_
    exact ⟨by simp [R_sacks, c4], agF.rf⟩
