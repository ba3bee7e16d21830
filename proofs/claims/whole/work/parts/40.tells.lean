/-! THE CLASS TELLS -/
theorem kd5 {x : Int32} (h1 : 1 ≤ x.toInt) (h2 : x.toInt ≤ 5) : x = 1 ∨ x = 2 ∨ x = 3 ∨ x = 4 ∨ x = 5 := by
  rcases ts0_5 x with h | h | h | h | h | h | h
  · omega
  · rw [h] at h1; exact absurd h1 (by decide)
  · exact Or.inl h
  · exact Or.inr (Or.inl h)
  · exact Or.inr (Or.inr (Or.inl h))
  · exact Or.inr (Or.inr (Or.inr (Or.inl h)))
  · exact Or.inr (Or.inr (Or.inr (Or.inr h)))
theorem WayIs.kd {f : MM} {n L g w : Nat} (W : WayIs f 4 (f 89) n L g) (hw : w < n) : f (6 + 2 + w) 0 = 1 ∨ f (6 + 2 + w) 0 = 2 ∨ f (6 + 2 + w) 0 = 3 ∨ f (6 + 2 + w) 0 = 4 ∨ f (6 + 2 + w) 0 = 5 := by
  have q := (W.now.pt.2.2.2 w hw).1
  exact kd5 q.1 q.2
theorem upd_self {s : Nat → Int32} {k : Nat} : upd s k (s k) = s := by
  funext j
  unfold upd
  by_cases e : j = k
  · rw [if_pos e, e]
  · rw [if_neg e]
theorem hutV_now {n L g : Nat} {st : Nat → Int32} : hutV n L g st (st 10) (st 11) = hutI n L (allI n) (L - g) g st := by
  unfold hutV
  rw [upd_self, upd_self]
set_option maxRecDepth 100000 in
set_option maxHeartbeats 4000000 in
theorem c_X8_fault {G : GG} {kn : Nat} {f : MM}  : CI G mX8_fault 1 kn [.ref (G.1 + 0)] f (f 2 8) f := by
  refine Ct.of [some (.ref (G.1 + 0))] rfl (by decide +kernel) rfl (Nat.le_of_ble_eq_true rfl) rfl ?_
  intro X C
  refine r_aload_n (pc := 0) C dX8_fault_0 rfl ?_
  refine r_getr (pc := 1) C fX8_18 dX8_fault_1 (s_0 _) rfl rfl ?_
  refine r_get (pc := 4) C fX8_131 dX8_fault_4 (s_2 _) rfl ?_
  refine q_iret (pc := 7) C dX8_fault_7 rfl ?_
  exact ⟨rfl, rfl⟩
set_option maxRecDepth 100000 in
set_option maxHeartbeats 4000000 in
theorem c_X8_status {G : GG} {kn : Nat} {f : MM}  : CI G mX8_status 1 kn [.ref (G.1 + 0)] f (f 0 8) f := by
  refine Ct.of [some (.ref (G.1 + 0))] rfl (by decide +kernel) rfl (Nat.le_of_ble_eq_true rfl) rfl ?_
  intro X C
  refine r_aload_n (pc := 0) C dX8_status_0 rfl ?_
  refine r_get (pc := 1) C fX8_254 dX8_status_1 (s_0 _) rfl ?_
  refine q_iret (pc := 4) C dX8_status_4 rfl ?_
  exact ⟨rfl, rfl⟩
set_option maxRecDepth 100000 in
set_option maxHeartbeats 4000000 in
theorem c_X8_kind {G : GG} {kn : Nat} {f : MM} {n L g : Nat} (W : WayIs f 4 (f 89) n L g) {a : Int32} : CI G mX8_kind 3 kn [.ref (G.1 + 0), .int a] f (R_kind f n a) f := by
  refine Ct.of [some (.ref (G.1 + 0)), some (.int a)] rfl (by decide +kernel) rfl (Nat.le_of_ble_eq_true rfl) rfl ?_
  intro X C
  have N := W.now
  have hn6 := N.hn
  have hL8 := N.hL
  have hgL := N.hg
  have hc := N.pt.2.2.1
  have hwy := N.wy.2
  refine r_aload_n (pc := 0) C dX8_kind_0 rfl ?_
  refine r_iload_n (pc := 1) C dX8_kind_1 rfl ?_
  refine q_vIf (pc := 2) C kX8_157 dX8_kind_2 (c_X8_isWalker (n := n) hn6 N.pt.1) (s_0 _) rfl rfl (Nat.le_of_ble_eq_true rfl) (by decide) ⟨by decide, by decide⟩ ?_
  refine r_if_eq (pc := 5) C 26 dX8_kind_5 (by decide) (fun c5 => ?_) (fun c5 => ?_)
  · replace c5 := b1_0 c5
    refine r_ldc (pc := 26) C (-1000001) kX8_62 dX8_kind_26 ?_
    refine q_iret (pc := 28) C dX8_kind_28 rfl ?_
    exact ⟨by simp [R_kind, c5], rfl⟩
  · replace c5 := b1_1 c5
    obtain ⟨w, hw, rfl⟩ := inR_of c5
    have tw : tn (nI w) = w := tn_nI (by omega)
    refine r_aload_n (pc := 8) C dX8_kind_8 rfl ?_
    refine r_getr (pc := 9) C fX8_25 dX8_kind_9 (s_0 _) rfl rfl ?_
    refine r_getr (pc := 12) C fX8_124 dX8_kind_12 (w_0 isW.now) rfl (w_t1 isW.now) ?_
    refine r_getr (pc := 15) C fX8_161 dX8_kind_15 (p_0 (isP.way isW.now)) rfl (p_t0 (isP.way isW.now)) ?_
    refine r_iload_n (pc := 18) C dX8_kind_18 rfl ?_
    refine q_aald (pc := 19) C w dX8_kind_19 (p_1 (isP.way isW.now)) (by decide) (p_1n (isP.way isW.now)) rfl (by omega) (by decide) (p_1t (isP.way isW.now) (by omega)) ?_
    refine r_get (pc := 20) C fX8_233 dX8_kind_20 (k_0 (isK.of (isP.way isW.now) (by omega))) rfl ?_
    refine q_val (f 89 (14 + w)) (hc w hw 0 (by decide)) ?_
    refine r_goto (pc := 23) C 28 dX8_kind_23 (by decide) ?_
    refine q_iret (pc := 28) C dX8_kind_28 rfl ?_
    exact ⟨by simp [R_kind, c5, tw], rfl⟩
set_option maxRecDepth 100000 in
set_option maxHeartbeats 4000000 in
theorem c_X8_leg {G : GG} {kn : Nat} {f : MM} {n L g : Nat} (W : WayIs f 4 (f 89) n L g) {a : Int32} : CI G mX8_leg 2 kn [.ref (G.1 + 0), .int a] f (R_leg f L a) f := by
  refine Ct.of [some (.ref (G.1 + 0)), some (.int a)] rfl (by decide +kernel) rfl (Nat.le_of_ble_eq_true rfl) rfl ?_
  intro X C
  have N := W.now
  have hn6 := N.hn
  have hL8 := N.hL
  have hgL := N.hg
  have hc := N.pt.2.2.1
  have hwy := N.wy.2
  refine r_iload_n (pc := 0) C dX8_leg_0 rfl ?_
  refine r_aload_n (pc := 1) C dX8_leg_1 rfl ?_
  refine r_getr (pc := 2) C fX8_25 dX8_leg_2 (s_0 _) rfl rfl ?_
  refine r_get (pc := 5) C fX8_140 dX8_leg_5 (w_0 isW.now) rfl ?_
  refine q_sIf (pc := 8) C kX8_58 dX8_leg_8 (c_blw L N.wy.1 (by omega)) rfl rfl (Nat.le_of_ble_eq_true rfl) (by decide) ⟨by decide, by decide⟩ ?_
  refine r_if_eq (pc := 11) C 26 dX8_leg_11 (by decide) (fun c11 => ?_) (fun c11 => ?_)
  · replace c11 := b1_0 c11
    refine r_ldc (pc := 26) C (-1000001) kX8_62 dX8_leg_26 ?_
    refine q_iret (pc := 28) C dX8_leg_28 rfl ?_
    exact ⟨by simp [R_leg, c11], rfl⟩
  · replace c11 := b1_1 c11
    obtain ⟨j, hj, rfl⟩ := inR_of c11
    have tj : tn (nI j) = j := tn_nI (by omega)
    refine r_aload_n (pc := 14) C dX8_leg_14 rfl ?_
    refine r_getr (pc := 15) C fX8_25 dX8_leg_15 (s_0 _) rfl rfl ?_
    refine r_getr (pc := 18) C fX8_186 dX8_leg_18 (w_0 isW.now) rfl (w_t0 isW.now) ?_
    refine r_iload_n (pc := 21) C dX8_leg_21 rfl ?_
    refine q_iald (pc := 22) C j dX8_leg_22 (w_1 isW.now) (w_1n isW.now) rfl (by omega) (by decide) ?_
    refine q_val (f 89 j) (hwy j hj).1 ?_
    refine r_goto (pc := 23) C 28 dX8_leg_23 (by decide) ?_
    refine q_iret (pc := 28) C dX8_leg_28 rfl ?_
    exact ⟨by simp [R_leg, c11, tj], rfl⟩
set_option maxRecDepth 100000 in
set_option maxHeartbeats 4000000 in
theorem c_X8_mends {G : GG} {kn : Nat} {f : MM} {a : Int32} : CI G mX8_mends 2 kn [.ref (G.1 + 0), .int a] f (R_mends a) f := by
  refine Ct.of [some (.ref (G.1 + 0)), some (.int a)] rfl (by decide +kernel) rfl (Nat.le_of_ble_eq_true rfl) rfl ?_
  intro X C
  refine r_iload_n (pc := 0) C dX8_mends_0 rfl ?_
  refine r_sipush (pc := 1) C (1000) dX8_mends_1 (by decide) ?_
  refine q_sIf (pc := 4) C kX8_58 dX8_mends_4 (c_blw 1000 rfl (by decide)) rfl rfl (Nat.le_of_ble_eq_true rfl) (by decide) ⟨by decide, by decide⟩ ?_
  refine r_if_eq (pc := 7) C 17 dX8_mends_7 (by decide) (fun c7 => ?_) (fun c7 => ?_)
  · replace c7 := b1_0 c7
    refine r_ldc (pc := 17) C (-1000001) kX8_62 dX8_mends_17 ?_
    refine q_iret (pc := 19) C dX8_mends_19 rfl ?_
    exact ⟨by simp [R_mends, c7], rfl⟩
  · replace c7 := b1_1 c7
    refine r_iload_n (pc := 10) C dX8_mends_10 rfl ?_
    refine q_sIf (pc := 11) C kX8_193 dX8_mends_11 (c_X6_mendedBy) rfl rfl (Nat.le_of_ble_eq_true rfl) (by decide) ⟨by decide, by decide⟩ ?_
    refine r_goto (pc := 14) C 19 dX8_mends_14 (by decide) ?_
    refine q_iret (pc := 19) C dX8_mends_19 rfl ?_
    exact ⟨by simp [R_mends, c7], rfl⟩
set_option maxRecDepth 100000 in
set_option maxHeartbeats 4000000 in
theorem c_X8_trace {G : GG} {kn : Nat} {f : MM} {t : Nat} (ht : t ≤ 16) (e47 : f 47 1 = nI t) (ei : ∀ i, i < t → f 48 i = f 101 i) {a : Int32} : CI G mX8_trace 2 kn [.ref (G.1 + 0), .int a] f (R_trace f t a) f := by
  refine Ct.of [some (.ref (G.1 + 0)), some (.int a)] rfl (by decide +kernel) rfl (Nat.le_of_ble_eq_true rfl) rfl ?_
  intro X C
  refine r_iload_n (pc := 0) C dX8_trace_0 rfl ?_
  refine r_aload_n (pc := 1) C dX8_trace_1 rfl ?_
  refine r_getr (pc := 2) C fX8_53 dX8_trace_2 (s_0 _) rfl rfl ?_
  refine r_get (pc := 5) C fX8_243 dX8_trace_5 (s_47 _) rfl ?_
  refine q_sIf (pc := 8) C kX8_58 dX8_trace_8 (c_blw t e47 (by omega)) rfl rfl (Nat.le_of_ble_eq_true rfl) (by decide) ⟨by decide, by decide⟩ ?_
  refine r_if_eq (pc := 11) C 26 dX8_trace_11 (by decide) (fun c11 => ?_) (fun c11 => ?_)
  · replace c11 := b1_0 c11
    refine r_ldc (pc := 26) C (-1000000) kX8_192 dX8_trace_26 ?_
    refine q_iret (pc := 28) C dX8_trace_28 rfl ?_
    exact ⟨by simp [R_trace, c11], rfl⟩
  · replace c11 := b1_1 c11
    obtain ⟨j, hj, rfl⟩ := inR_of c11
    have tj : tn (nI j) = j := tn_nI (by omega)
    refine r_aload_n (pc := 14) C dX8_trace_14 rfl ?_
    refine r_getr (pc := 15) C fX8_53 dX8_trace_15 (s_0 _) rfl rfl ?_
    refine r_getr (pc := 18) C fX8_244 dX8_trace_18 (s_47 _) rfl rfl ?_
    refine r_iload_n (pc := 21) C dX8_trace_21 rfl ?_
    refine q_iald (pc := 22) C j dX8_trace_22 (s_48 _) (sn_48 _) rfl (by omega) (by decide) ?_
    refine q_val (f 101 j) (ei j hj) ?_
    refine r_goto (pc := 23) C 28 dX8_trace_23 (by decide) ?_
    refine q_iret (pc := 28) C dX8_trace_28 rfl ?_
    exact ⟨by simp [R_trace, c11, tj], rfl⟩
set_option maxRecDepth 100000 in
set_option maxHeartbeats 4000000 in
theorem c_X8_walker {G : GG} {kn : Nat} {f : MM} {n L g : Nat} (W : WayIs f 4 (f 89) n L g) {a b : Int32} : CI G mX8_walker 3 kn [.ref (G.1 + 0), .int a, .int b] f (R_walker f n L g a b) f := by
  refine Ct.of [some (.ref (G.1 + 0)), some (.int a), some (.int b), none] rfl (by decide +kernel) rfl (Nat.le_of_ble_eq_true rfl) rfl ?_
  intro X C
  have N := W.now
  have hn6 := N.hn
  have hL8 := N.hL
  have hgL := N.hg
  have hc := N.pt.2.2.1
  have hwy := N.wy.2
  refine r_aload_n (pc := 0) C dX8_walker_0 rfl ?_
  refine r_iload_n (pc := 1) C dX8_walker_1 rfl ?_
  refine q_vIf (pc := 2) C kX8_157 dX8_walker_2 (c_X8_isWalker (n := n) hn6 N.pt.1) (s_0 _) rfl rfl (Nat.le_of_ble_eq_true rfl) (by decide) ⟨by decide, by decide⟩ ?_
  refine r_if_ne (pc := 5) C 11 dX8_walker_5 (by decide) (fun c5 => ?_) (fun c5 => ?_)
  · replace c5 := b1_1 c5
    obtain ⟨w, hw, rfl⟩ := inR_of c5
    have tw : tn (nI w) = w := tn_nI (by omega)
    refine r_aload_n (pc := 11) C dX8_walker_11 rfl ?_
    refine r_getr (pc := 12) C fX8_25 dX8_walker_12 (s_0 _) rfl rfl ?_
    refine r_getr (pc := 15) C fX8_124 dX8_walker_15 (w_0 isW.now) rfl (w_t1 isW.now) ?_
    refine r_getr (pc := 18) C fX8_161 dX8_walker_18 (p_0 (isP.way isW.now)) rfl (p_t0 (isP.way isW.now)) ?_
    refine r_iload_n (pc := 21) C dX8_walker_21 rfl ?_
    refine q_aald (pc := 22) C w dX8_walker_22 (p_1 (isP.way isW.now)) (by decide) (p_1n (isP.way isW.now)) rfl (by omega) (by decide) (p_1t (isP.way isW.now) (by omega)) ?_
    refine r_astore_n (pc := 23) C dX8_walker_23 (by decide) rfl ?_
    refine r_iload_n (pc := 24) C dX8_walker_24 rfl ?_
    refine r_top (fun x25 hx25 => ?_)
    rcases ts0_5 x25 with c25 | c25 | c25 | c25 | c25 | c25 | c25
    · refine r_tableOut (pc := 25) C 131 dX8_walker_25 c25 (by decide) ?_
      refine r_ldc (pc := 131) C (-1000001) kX8_62 dX8_walker_131 ?_
      refine q_iret (pc := 133) C dX8_walker_133 rfl ?_
      refine ⟨?_, rfl⟩
      subst hx25
      rw [R_walker, if_pos c5, if_neg (tsne c25 (by decide)), if_neg (tsne c25 (by decide)), if_neg (tsne c25 (by decide)), if_neg (tsne c25 (by decide)), if_neg (tsne c25 (by decide)), if_neg (tsne c25 (by decide))]
    · refine r_tableEq (pc := 25) C 64 (0) c25 dX8_walker_25 (by decide) (by decide) rfl (by decide) ?_
      refine r_aload_n (pc := 64) C dX8_walker_64 rfl ?_
      refine r_get (pc := 65) C fX8_174 dX8_walker_65 (k_0 (isK.of (isP.way isW.now) (by omega))) rfl ?_
      refine q_iret (pc := 68) C dX8_walker_68 rfl ?_
      refine ⟨?_, rfl⟩
      subst hx25
      subst c25
      simp [R_walker, c5, tw]
      exact hc w hw 1 (by decide)
    · refine r_tableEq (pc := 25) C 69 (1) c25 dX8_walker_25 (by decide) (by decide) rfl (by decide) ?_
      refine r_aload_n (pc := 69) C dX8_walker_69 rfl ?_
      refine r_get (pc := 70) C fX8_165 dX8_walker_70 (k_0 (isK.of (isP.way isW.now) (by omega))) rfl ?_
      refine q_iret (pc := 73) C dX8_walker_73 rfl ?_
      refine ⟨?_, rfl⟩
      subst hx25
      subst c25
      simp [R_walker, c5, tw]
      exact hc w hw 2 (by decide)
    · refine r_tableEq (pc := 25) C 74 (2) c25 dX8_walker_25 (by decide) (by decide) rfl (by decide) ?_
      refine r_aload_n (pc := 74) C dX8_walker_74 rfl ?_
      refine r_get (pc := 75) C fX8_177 dX8_walker_75 (k_0 (isK.of (isP.way isW.now) (by omega))) rfl ?_
      refine q_iret (pc := 78) C dX8_walker_78 rfl ?_
      refine ⟨?_, rfl⟩
      subst hx25
      subst c25
      simp [R_walker, c5, tw]
      exact hc w hw 3 (by decide)
    · refine r_tableEq (pc := 25) C 79 (3) c25 dX8_walker_25 (by decide) (by decide) rfl (by decide) ?_
      refine r_aload_n (pc := 79) C dX8_walker_79 rfl ?_
      refine r_get (pc := 80) C fX8_180 dX8_walker_80 (k_0 (isK.of (isP.way isW.now) (by omega))) rfl ?_
      refine q_iret (pc := 83) C dX8_walker_83 rfl ?_
      refine ⟨?_, rfl⟩
      subst hx25
      subst c25
      simp [R_walker, c5, tw]
      exact hc w hw 4 (by decide)
    · refine r_tableEq (pc := 25) C 84 (4) c25 dX8_walker_25 (by decide) (by decide) rfl (by decide) ?_
      refine r_aload_n (pc := 84) C dX8_walker_84 rfl ?_
      refine r_get (pc := 85) C fX8_183 dX8_walker_85 (k_0 (isK.of (isP.way isW.now) (by omega))) rfl ?_
      refine q_iret (pc := 88) C dX8_walker_88 rfl ?_
      refine ⟨?_, rfl⟩
      subst hx25
      subst c25
      simp [R_walker, c5, tw]
      exact hc w hw 5 (by decide)
    · refine r_tableEq (pc := 25) C 89 (5) c25 dX8_walker_25 (by decide) (by decide) rfl (by decide) ?_
      refine r_aload_n (pc := 89) C dX8_walker_89 rfl ?_
      refine r_getr (pc := 90) C fX8_25 dX8_walker_90 (s_0 _) rfl rfl ?_
      refine r_get (pc := 93) C fX8_137 dX8_walker_93 (w_0 isW.now) rfl ?_
      refine r_aload_n (pc := 96) C dX8_walker_96 rfl ?_
      refine r_getr (pc := 97) C fX8_25 dX8_walker_97 (s_0 _) rfl rfl ?_
      refine r_get (pc := 100) C fX8_140 dX8_walker_100 (w_0 isW.now) rfl ?_
      refine q_ge (pc := 103) C g L 128 N.gt N.wy.1 (by omega) (by omega) dX8_walker_103 (by decide) (fun c103 => ?_) (fun c103 => ?_)
      · refine r_ldc (pc := 128) C (-1000000) kX8_192 dX8_walker_128 ?_
        refine q_iret (pc := 130) C dX8_walker_130 rfl ?_
        refine ⟨?_, rfl⟩
        subst hx25
        subst c25
        simp [R_walker, c5, tw, show ¬ g < L by omega]
      · refine r_aload_n (pc := 106) C dX8_walker_106 rfl ?_
        refine r_aload_n (pc := 107) C dX8_walker_107 rfl ?_
        refine r_getr (pc := 108) C fX8_25 dX8_walker_108 (s_0 _) rfl rfl ?_
        refine r_getr (pc := 111) C fX8_186 dX8_walker_111 (w_0 isW.now) rfl (w_t0 isW.now) ?_
        refine r_aload_n (pc := 114) C dX8_walker_114 rfl ?_
        refine r_getr (pc := 115) C fX8_25 dX8_walker_115 (s_0 _) rfl rfl ?_
        refine r_get (pc := 118) C fX8_137 dX8_walker_118 (w_0 isW.now) rfl ?_
        refine q_iald (pc := 121) C g dX8_walker_121 (w_1 isW.now) (w_1n isW.now) N.gt (by omega) (by decide) ?_
        refine q_vIf (pc := 122) C kX8_189 dX8_walker_122 (c_X6_minutesFor (isK.of (isP.way isW.now) (show w < 6 by omega)) ((N.pt.2.2.2 w hw).fit (by omega))) (k_0 (isK.of (isP.way isW.now) (by omega))) rfl rfl (Nat.le_of_ble_eq_true rfl) (by decide) ⟨by decide, by decide⟩ ?_
        refine q_val (takesS (f 89) w g) (by unfold takesS; rw [← hc w hw 0 (by decide), ← hc w hw 1 (by decide), ← hc w hw 2 (by decide), ← hc w hw 3 (by decide), ← (hwy g c103).1]) ?_
        refine r_goto (pc := 125) C 130 dX8_walker_125 (by decide) ?_
        refine q_iret (pc := 130) C dX8_walker_130 rfl ?_
        refine ⟨?_, rfl⟩
        subst hx25
        subst c25
        simp [R_walker, c5, tw, c103]
  · replace c5 := b1_0 c5
    refine r_ldc (pc := 8) C (-1000001) kX8_62 dX8_walker_8 ?_
    refine q_iret (pc := 10) C dX8_walker_10 rfl ?_
    exact ⟨by simp [R_walker, c5], rfl⟩
set_option maxRecDepth 100000 in
set_option maxHeartbeats 4000000 in
theorem l_countRows {X : XT} {G : GG} {kn : Nat} {Q : State → Prop} {f : MM} (C : Cx X G mX8_countRows 1 0 0 (NN kn)) (hR : IRow f) (K : ∀ g : MM, (fun _ g => g = f) 8 g → Vw X G mX8_countRows.2.2.2.1 0 0 Q (NN kn) (shF kn) g 34 [some (.ref (G.1 + 0)), some (.int (cntS f 8)), some (.int (nI 8))] []) : ∀ (m i : Nat) (g : MM), i + m = 8 → (fun _ g => g = f) i g → Vw X G mX8_countRows.2.2.2.1 0 0 Q (NN kn) (shF kn) g 4 [some (.ref (G.1 + 0)), some (.int (cntS f i)), some (.int (nI i))] [] := by
  intro m
  induction m with
  | zero =>
    intro i g hm hg
    obtain rfl : 8 = i := by omega
    subst hg
    refine r_iload_n (pc := 4) C dX8_countRows_4 rfl ?_
    refine r_aload_n (pc := 5) C dX8_countRows_5 rfl ?_
    refine r_getr (pc := 6) C fX8_11 dX8_countRows_6 (s_0 _) rfl rfl ?_
    refine r_alen (pc := 9) C (8) dX8_countRows_9 ⟨(s_1 _).1, by rw [(s_1 _).2]; decide, by rw [(s_1 _).2]; decide⟩ (sn_1 _) rfl ?_
    refine q_ge (pc := 10) C 8 8 34 rfl rfl (by omega) (by omega) dX8_countRows_10 (by decide) (fun c10 => ?_) (fun c10 => ?_)
    · exact K _ rfl
    · exact absurd c10 (by omega)
  | succ m ih =>
    intro i g hm hg
    subst hg
    refine r_iload_n (pc := 4) C dX8_countRows_4 rfl ?_
    refine r_aload_n (pc := 5) C dX8_countRows_5 rfl ?_
    refine r_getr (pc := 6) C fX8_11 dX8_countRows_6 (s_0 _) rfl rfl ?_
    refine r_alen (pc := 9) C (8) dX8_countRows_9 ⟨(s_1 _).1, by rw [(s_1 _).2]; decide, by rw [(s_1 _).2]; decide⟩ (sn_1 _) rfl ?_
    refine q_ge (pc := 10) C i 8 34 rfl rfl (by omega) (by omega) dX8_countRows_10 (by decide) (fun c10 => ?_) (fun c10 => ?_)
    · exact absurd c10 (by omega)
    · refine r_aload_n (pc := 13) C dX8_countRows_13 rfl ?_
      refine r_getr (pc := 14) C fX8_11 dX8_countRows_14 (s_0 _) rfl rfl ?_
      refine r_iload_n (pc := 17) C dX8_countRows_17 rfl ?_
      refine q_aald (pc := 18) C i dX8_countRows_18 (s_1 _) (by decide) (sn_1 _) rfl (by omega) (by decide) (ra_t (by omega)) ?_
      refine r_get (pc := 19) C fX8_74 dX8_countRows_19 (x_0 (by omega)) rfl ?_
      refine r_if_ne (pc := 22) C 28 dX8_countRows_22 (by decide) (fun c22 => ?_) (fun c22 => ?_)
      · refine r_iinc (pc := 28) C (nI (i + 1)) dX8_countRows_28 rfl (nI_inc _) (by decide) rfl ?_
        refine r_goto (pc := 31) C 4 dX8_countRows_31 (by decide) ?_
        have e : cntS g (i + 1) = cntS g i + (if 0 ≤ g 87 i then 1 else 0) := rfl
        have h := ih (i + 1) g (by omega) rfl
        rw [e] at h
        first
          | (rw [if_neg (by rw [(hR i (by omega)).gone c22]; decide), Int32.add_zero] at h; exact h)
          | (obtain ⟨m, hm, z1, -⟩ := (hR i (by omega)).here c22; rw [if_pos (by rw [z1]; exact nn_nI (by omega))] at h; exact h)
      · refine r_iinc (pc := 25) C _ dX8_countRows_25 rfl rfl (by decide) rfl ?_
        refine r_iinc (pc := 28) C (nI (i + 1)) dX8_countRows_28 rfl (nI_inc _) (by decide) rfl ?_
        refine r_goto (pc := 31) C 4 dX8_countRows_31 (by decide) ?_
        have e : cntS g (i + 1) = cntS g i + (if 0 ≤ g 87 i then 1 else 0) := rfl
        have h := ih (i + 1) g (by omega) rfl
        rw [e] at h
        first
          | (rw [if_neg (by rw [(hR i (by omega)).gone c22]; decide), Int32.add_zero] at h; exact h)
          | (obtain ⟨m, hm, z1, -⟩ := (hR i (by omega)).here c22; rw [if_pos (by rw [z1]; exact nn_nI (by omega))] at h; exact h)
set_option maxRecDepth 100000 in
set_option maxHeartbeats 4000000 in
theorem c_X8_countRows {G : GG} {kn : Nat} {f : MM} (hR : IRow f) : CI G mX8_countRows 1 kn [.ref (G.1 + 0)] f (cntS f 8) f := by
  refine Ct.of [some (.ref (G.1 + 0)), none, none] rfl (by decide +kernel) rfl (Nat.le_of_ble_eq_true rfl) rfl ?_
  intro X C
  refine r_iconst (pc := 0) C (0) dX8_countRows_0 (by decide) ?_
  refine r_istore_n (pc := 1) C dX8_countRows_1 (by decide) rfl ?_
  refine r_iconst (pc := 2) C (0) dX8_countRows_2 (by decide) ?_
  refine r_istore_n (pc := 3) C dX8_countRows_3 (by decide) rfl ?_
  refine l_countRows C hR ?_ 8 0 _ rfl rfl
  intro g hg
  subst hg
  refine r_iload_n (pc := 34) C dX8_countRows_34 rfl ?_
  refine q_iret (pc := 35) C dX8_countRows_35 rfl ?_
  exact ⟨rfl, rfl⟩
set_option maxRecDepth 100000 in
set_option maxHeartbeats 4000000 in
theorem c_X8_count {G : GG} {kn : Nat} {f : MM} (I : Inv kn f) {a : Int32} : CI G mX8_count 2 kn [.ref (G.1 + 0), .int a] f (R_count f a) f := by
  refine Ct.of [some (.ref (G.1 + 0)), some (.int a)] rfl (by decide +kernel) rfl (Nat.le_of_ble_eq_true rfl) rfl ?_
  intro X C
  obtain ⟨n, L, g, W⟩ := I.now
  obtain ⟨ac, q, aq⟩ := I.act
  obtain ⟨tp, len, hlen, l1, l2⟩ := I.tap
  refine r_iload_n (pc := 0) C dX8_count_0 rfl ?_
  refine r_top (fun x1 hx1 => ?_)
  rcases ts0_8 x1 with c1 | c1 | c1 | c1 | c1 | c1 | c1 | c1 | c1 | c1
  · refine r_tableOut (pc := 1) C 124 dX8_count_1 c1 (by decide) ?_
    refine r_ldc (pc := 124) C (-1000001) kX8_62 dX8_count_124 ?_
    refine q_iret (pc := 126) C dX8_count_126 rfl ?_
    refine ⟨?_, rfl⟩
    subst hx1
    first | exact (cnt_out c1).symm | (subst c1; simp [R_count]; done)
  · refine r_tableEq (pc := 1) C 52 (0) c1 dX8_count_1 (by decide) (by decide) rfl (by decide) ?_
    refine r_aload_n (pc := 52) C dX8_count_52 rfl ?_
    refine q_vIf (pc := 53) C kX8_247 dX8_count_53 (c_X8_countRows I.row) (s_0 _) rfl rfl (Nat.le_of_ble_eq_true rfl) (by decide) ⟨by decide, by decide⟩ ?_
    refine q_iret (pc := 56) C dX8_count_56 rfl ?_
    refine ⟨?_, rfl⟩
    subst hx1
    first | exact (cnt_out c1).symm | (subst c1; simp [R_count]; done)
  · refine r_tableEq (pc := 1) C 57 (1) c1 dX8_count_1 (by decide) (by decide) rfl (by decide) ?_
    refine r_aload_n (pc := 57) C dX8_count_57 rfl ?_
    refine r_getr (pc := 58) C fX8_25 dX8_count_58 (s_0 _) rfl rfl ?_
    refine r_get (pc := 61) C fX8_140 dX8_count_61 (w_0 isW.now) rfl ?_
    refine q_val (f 89 8) (W.2.2.2.2.1.trans W.2.1.2.1.symm) ?_
    refine q_iret (pc := 64) C dX8_count_64 rfl ?_
    refine ⟨?_, rfl⟩
    subst hx1
    first | exact (cnt_out c1).symm | (subst c1; simp [R_count]; done)
  · refine r_tableEq (pc := 1) C 65 (2) c1 dX8_count_1 (by decide) (by decide) rfl (by decide) ?_
    refine r_aload_n (pc := 65) C dX8_count_65 rfl ?_
    refine r_getr (pc := 66) C fX8_25 dX8_count_66 (s_0 _) rfl rfl ?_
    refine r_getr (pc := 69) C fX8_124 dX8_count_69 (w_0 isW.now) rfl (w_t1 isW.now) ?_
    refine r_get (pc := 72) C fX8_128 dX8_count_72 (p_0 (isP.way isW.now)) rfl ?_
    refine q_val (f 89 13) (W.now.pt.1.trans W.2.1.1.symm) ?_
    refine q_iret (pc := 75) C dX8_count_75 rfl ?_
    refine ⟨?_, rfl⟩
    subst hx1
    first | exact (cnt_out c1).symm | (subst c1; simp [R_count]; done)
  · refine r_tableEq (pc := 1) C 76 (3) c1 dX8_count_1 (by decide) (by decide) rfl (by decide) ?_
    refine r_aload_n (pc := 76) C dX8_count_76 rfl ?_
    refine r_getr (pc := 77) C fX8_25 dX8_count_77 (s_0 _) rfl rfl ?_
    refine r_get (pc := 80) C fX8_137 dX8_count_80 (w_0 isW.now) rfl ?_
    refine q_val (f 89 9) (W.now.gt.trans W.2.1.2.2.symm) ?_
    refine q_iret (pc := 83) C dX8_count_83 rfl ?_
    refine ⟨?_, rfl⟩
    subst hx1
    first | exact (cnt_out c1).symm | (subst c1; simp [R_count]; done)
  · refine r_tableEq (pc := 1) C 84 (4) c1 dX8_count_1 (by decide) (by decide) rfl (by decide) ?_
    refine r_aload_n (pc := 84) C dX8_count_84 rfl ?_
    refine r_getr (pc := 85) C fX8_25 dX8_count_85 (s_0 _) rfl rfl ?_
    refine r_get (pc := 88) C fX8_147 dX8_count_88 (w_0 isW.now) rfl ?_
    refine q_val (f 89 10) W.now.ru ?_
    refine q_iret (pc := 91) C dX8_count_91 rfl ?_
    refine ⟨?_, rfl⟩
    subst hx1
    first | exact (cnt_out c1).symm | (subst c1; simp [R_count]; done)
  · refine r_tableEq (pc := 1) C 92 (5) c1 dX8_count_1 (by decide) (by decide) rfl (by decide) ?_
    refine r_aload_n (pc := 92) C dX8_count_92 rfl ?_
    refine r_getr (pc := 93) C fX8_25 dX8_count_93 (s_0 _) rfl rfl ?_
    refine r_get (pc := 96) C fX8_150 dX8_count_96 (w_0 isW.now) rfl ?_
    refine q_val (f 89 11) W.now.mi ?_
    refine q_iret (pc := 99) C dX8_count_99 rfl ?_
    refine ⟨?_, rfl⟩
    subst hx1
    first | exact (cnt_out c1).symm | (subst c1; simp [R_count]; done)
  · refine r_tableEq (pc := 1) C 100 (6) c1 dX8_count_1 (by decide) (by decide) rfl (by decide) ?_
    refine r_aload_n (pc := 100) C dX8_count_100 rfl ?_
    refine r_getr (pc := 101) C fX8_25 dX8_count_101 (s_0 _) rfl rfl ?_
    refine r_get (pc := 104) C fX8_251 dX8_count_104 (w_0 isW.now) rfl ?_
    refine q_val (f 89 12) W.now.su ?_
    refine q_iret (pc := 107) C dX8_count_107 rfl ?_
    refine ⟨?_, rfl⟩
    subst hx1
    first | exact (cnt_out c1).symm | (subst c1; simp [R_count]; done)
  · refine r_tableEq (pc := 1) C 108 (7) c1 dX8_count_1 (by decide) (by decide) rfl (by decide) ?_
    refine r_aload_n (pc := 108) C dX8_count_108 rfl ?_
    refine r_getr (pc := 109) C fX8_39 dX8_count_109 (s_0 _) rfl rfl ?_
    refine r_get (pc := 112) C fX8_170 dX8_count_112 (s_25 _) rfl ?_
    refine q_val (f 85 18) (aq.2.2.1.2.1.trans aq.2.2.1.2.2.symm) ?_
    refine q_iret (pc := 115) C dX8_count_115 rfl ?_
    refine ⟨?_, rfl⟩
    subst hx1
    first | exact (cnt_out c1).symm | (subst c1; simp [R_count]; done)
  · refine r_tableEq (pc := 1) C 116 (8) c1 dX8_count_1 (by decide) (by decide) rfl (by decide) ?_
    refine r_aload_n (pc := 116) C dX8_count_116 rfl ?_
    refine r_getr (pc := 117) C fX8_18 dX8_count_117 (s_0 _) rfl rfl ?_
    refine r_get (pc := 120) C fX8_102 dX8_count_120 (s_2 _) rfl ?_
    refine q_val (f 85 8) (l1.trans l2.symm) ?_
    refine q_iret (pc := 123) C dX8_count_123 rfl ?_
    refine ⟨?_, rfl⟩
    subst hx1
    first | exact (cnt_out c1).symm | (subst c1; simp [R_count]; done)
set_option maxRecDepth 100000 in
set_option maxHeartbeats 4000000 in
theorem c_X8_there {G : GG} {kn : Nat} {f : MM} {n L g : Nat} (W : WayIs f 4 (f 89) n L g) {a b : Int32} : RI G mX8_there 7 kn [.ref (G.1 + 0), .int a, .int b] f (fun v g2 => v = R_there f n L g a b ∧ agC f g2) := by
  refine Ct.of [some (.ref (G.1 + 0)), some (.int a), some (.int b), none] rfl (by decide +kernel) rfl (Nat.le_of_ble_eq_true rfl) rfl ?_
  intro X C
  have N := W.now
  have hn6 := N.hn
  have hL8 := N.hL
  have hgL := N.hg
  have hc := N.pt.2.2.1
  have hwy := N.wy.2
  refine r_aload_n (pc := 0) C dX8_there_0 rfl ?_
  refine r_iload_n (pc := 1) C dX8_there_1 rfl ?_
  refine q_vIf (pc := 2) C kX8_157 dX8_there_2 (c_X8_isWalker (n := n) hn6 N.pt.1) (s_0 _) rfl rfl (Nat.le_of_ble_eq_true rfl) (by decide) ⟨by decide, by decide⟩ ?_
  refine r_if_eq (pc := 5) C 16 dX8_there_5 (by decide) (fun c5 => ?_) (fun c5 => ?_)
  · replace c5 := b1_0 c5
    refine r_ldc (pc := 16) C (-1000001) kX8_62 dX8_there_16 ?_
    refine q_iret (pc := 18) C dX8_there_18 rfl ?_
    exact ⟨by simp [R_there, c5], agC.rf⟩
  · replace c5 := b1_1 c5
    obtain ⟨w, hw, rfl⟩ := inR_of c5
    have tw : tn (nI w) = w := tn_nI (by omega)
    refine r_iload_n (pc := 8) C dX8_there_8 rfl ?_
    refine r_iconst (pc := 9) C (3) dX8_there_9 (by decide) ?_
    refine q_sIf (pc := 10) C kX8_58 dX8_there_10 (c_blw 3 rfl (by decide)) rfl rfl (Nat.le_of_ble_eq_true rfl) (by decide) ⟨by decide, by decide⟩ ?_
    refine r_if_ne (pc := 13) C 19 dX8_there_13 (by decide) (fun c13 => ?_) (fun c13 => ?_)
    · replace c13 := b1_1 c13
      refine r_aload_n (pc := 19) C dX8_there_19 rfl ?_
      refine r_getr (pc := 20) C fX8_46 dX8_there_20 (s_0 _) rfl rfl ?_
      refine r_aload_n (pc := 23) C dX8_there_23 rfl ?_
      refine r_getr (pc := 24) C fX8_25 dX8_there_24 (s_0 _) rfl rfl ?_
      refine r_aload_n (pc := 27) C dX8_there_27 rfl ?_
      refine r_getr (pc := 28) C fX8_25 dX8_there_28 (s_0 _) rfl rfl ?_
      refine r_get (pc := 31) C fX8_147 dX8_there_31 (w_0 isW.now) rfl ?_
      refine q_val (f 89 10) N.ru ?_
      refine r_aload_n (pc := 34) C dX8_there_34 rfl ?_
      refine r_getr (pc := 35) C fX8_25 dX8_there_35 (s_0 _) rfl rfl ?_
      refine r_get (pc := 38) C fX8_150 dX8_there_38 (w_0 isW.now) rfl ?_
      refine q_val (f 89 11) N.mi ?_
      refine q_vI (pc := 41) C kX8_196 dX8_there_41 (c_X2_walkToHut N N.mb) (s_27 _) rfl rfl (Nat.le_of_ble_eq_true rfl) (by decide) ⟨by decide, by decide⟩ ?_
      intro v41 f41 h41
      obtain ⟨l2, hl2, hP⟩ := h41.2.1
      refine r_pop (pc := 44) C dX8_there_44 rfl ?_
      refine r_aload_n (pc := 45) C dX8_there_45 rfl ?_
      refine r_getr (pc := 46) C fX8_46 dX8_there_46 (s_0 _) rfl rfl ?_
      refine r_getr (pc := 49) C fX8_200 dX8_there_49 (s_27 _) rfl rfl ?_
      refine r_getr (pc := 52) C fX8_161 dX8_there_52 (p_0 isP.go) rfl (p_t0 isP.go) ?_
      refine r_iload_n (pc := 55) C dX8_there_55 rfl ?_
      refine q_aald (pc := 56) C w dX8_there_56 (p_1 isP.go) (by decide) (p_1n isP.go) rfl (by omega) (by decide) (p_1t isP.go (by omega)) ?_
      refine r_astore_n (pc := 57) C dX8_there_57 (by decide) rfl ?_
      refine r_iload_n (pc := 58) C dX8_there_58 rfl ?_
      refine r_if_ne (pc := 59) C 67 dX8_there_59 (by decide) (fun c59 => ?_) (fun c59 => ?_)
      · refine r_iload_n (pc := 67) C dX8_there_67 rfl ?_
        refine r_iconst (pc := 68) C (1) dX8_there_68 (by decide) ?_
        refine r_icmp_ne (pc := 69) C 79 dX8_there_69 (by decide) (fun c69 => ?_) (fun c69 => ?_)
        · refine r_aload_n (pc := 79) C dX8_there_79 rfl ?_
          refine r_get (pc := 80) C fX8_177 dX8_there_80 (k_0 (isK.of isP.go (by omega))) rfl ?_
          refine q_iret (pc := 83) C dX8_there_83 rfl ?_
          refine ⟨?_, h41.2.2.toC⟩
          have e := hP.2.2.1 w hw 3 (by decide)
          rw [hutV_now] at e
          simp [R_there, c5, tw, c13, c59, c69]
          exact e
        · refine r_aload_n (pc := 72) C dX8_there_72 rfl ?_
          refine r_get (pc := 73) C fX8_183 dX8_there_73 (k_0 (isK.of isP.go (by omega))) rfl ?_
          refine r_goto (pc := 76) C 83 dX8_there_76 (by decide) ?_
          refine q_iret (pc := 83) C dX8_there_83 rfl ?_
          refine ⟨?_, h41.2.2.toC⟩
          have e := hP.2.2.1 w hw 5 (by decide)
          rw [hutV_now] at e
          simp [R_there, c5, tw, c13, c59, c69]
          exact e
      · refine r_aload_n (pc := 62) C dX8_there_62 rfl ?_
        refine r_get (pc := 63) C fX8_180 dX8_there_63 (k_0 (isK.of isP.go (by omega))) rfl ?_
        refine q_iret (pc := 66) C dX8_there_66 rfl ?_
        refine ⟨?_, h41.2.2.toC⟩
        have e := hP.2.2.1 w hw 4 (by decide)
        rw [hutV_now] at e
        simp [R_there, c5, tw, c13, c59]
        exact e
    · replace c13 := b1_0 c13
      refine r_ldc (pc := 16) C (-1000001) kX8_62 dX8_there_16 ?_
      refine q_iret (pc := 18) C dX8_there_18 rfl ?_
      exact ⟨by simp [R_there, c5, tw, c13], agC.rf⟩
set_option maxRecDepth 100000 in
set_option maxHeartbeats 4000000 in
theorem c_X8_allThere {G : GG} {kn : Nat} {f : MM} {n L g : Nat} (W : WayIs f 4 (f 89) n L g) (hT : ITold f) : RI G mX8_allThere 7 kn [.ref (G.1 + 0)] f (fun v g2 => v = R_allThere f n L g ∧ agC f g2) := by
  refine Ct.of [some (.ref (G.1 + 0))] rfl (by decide +kernel) rfl (Nat.le_of_ble_eq_true rfl) rfl ?_
  intro X C
  have N := W.now
  have hn6 := N.hn
  have hL8 := N.hL
  have hgL := N.hg
  have hc := N.pt.2.2.1
  have hwy := N.wy.2
  refine r_aload_n (pc := 0) C dX8_allThere_0 rfl ?_
  refine r_getr (pc := 1) C fX8_25 dX8_allThere_1 (s_0 _) rfl rfl ?_
  refine r_get (pc := 4) C fX8_134 dX8_allThere_4 (w_0 isW.now) rfl ?_
  refine q_val (f 85 4) hT.1 ?_
  refine r_if_eq (pc := 7) C 38 dX8_allThere_7 (by decide) (fun c7 => ?_) (fun c7 => ?_)
  · refine r_ldc (pc := 38) C (-1000002) kX8_143 dX8_allThere_38 ?_
    refine q_iret (pc := 40) C dX8_allThere_40 rfl ?_
    exact ⟨by simp [R_allThere, c7], agC.rf⟩
  · refine r_aload_n (pc := 10) C dX8_allThere_10 rfl ?_
    refine r_getr (pc := 11) C fX8_46 dX8_allThere_11 (s_0 _) rfl rfl ?_
    refine r_aload_n (pc := 14) C dX8_allThere_14 rfl ?_
    refine r_getr (pc := 15) C fX8_25 dX8_allThere_15 (s_0 _) rfl rfl ?_
    refine r_aload_n (pc := 18) C dX8_allThere_18 rfl ?_
    refine r_getr (pc := 19) C fX8_25 dX8_allThere_19 (s_0 _) rfl rfl ?_
    refine r_get (pc := 22) C fX8_147 dX8_allThere_22 (w_0 isW.now) rfl ?_
    refine q_val (f 89 10) N.ru ?_
    refine r_aload_n (pc := 25) C dX8_allThere_25 rfl ?_
    refine r_getr (pc := 26) C fX8_25 dX8_allThere_26 (s_0 _) rfl rfl ?_
    refine r_get (pc := 29) C fX8_150 dX8_allThere_29 (w_0 isW.now) rfl ?_
    refine q_val (f 89 11) N.mi ?_
    refine q_vI (pc := 32) C kX8_196 dX8_allThere_32 (c_X2_walkToHut N N.mb) (s_27 _) rfl rfl (Nat.le_of_ble_eq_true rfl) (by decide) ⟨by decide, by decide⟩ ?_
    intro v32 f32 h32
    refine r_goto (pc := 35) C 40 dX8_allThere_35 (by decide) ?_
    refine q_iret (pc := 40) C dX8_allThere_40 rfl ?_
    exact ⟨by simp [R_allThere, c7]; exact h32.1, h32.2.2.toC⟩
theorem so_end {f g2 : MM} {n L g : Nat} (N : Now f n L g) (a : sr f g2 (soV n L g (f 89)) 0 n124) : soI (soV n L g (f 89)) n124 = clI (soV n L g (f 89)) n124 := by
  have hN := n124_eq
  have v := a.ok (fun k hk h => ?_)
  · have q := (so_cl v 123 (by omega)).1
    rw [show 123 + 1 = n124 from rfl] at q
    exact q
  · have z := ap_no (by omega) h
    show tryV n L g (f 89) (nI (31 * (k / 31) / 31)) _ = tryV n L g (f 89) (nI (k / 31)) _
    rw [show 31 * (k / 31) / 31 = k / 31 by omega]
    exact tryV_m N.hL N.hg z.1
theorem fa_end {f g2 : MM} {n L g : Nat} (N : Now f n L g) (h0 : 0 < n) (a : sr f g2 (faV n L g (f 89)) (-100000) n124) : (faI (faV n L g (f 89)) n124).1 = some (clI (faV n L g (f 89)) n124).1 ∧ (faI (faV n L g (f 89)) n124).2 = (clI (faV n L g (f 89)) n124).2 := by
  have hN := n124_eq
  have v := a.ok (fun k hk h => ?_)
  · have q := fa_cl v 123 (by omega)
    rw [show 123 + 1 = n124 from rfl] at q
    exact ⟨q.1, q.2.1⟩
  · have z := ap_no (by omega) h
    have e : 31 * (k / 31) / 31 = k / 31 := by omega
    show moI (fun w => hutV n L g (f 89) (nI (31 * (k / 31) / 31)) (nI (31 * (k / 31) % 31)) (38 + w)) _ (n - 1) = moI (fun w => hutV n L g (f 89) (nI (k / 31)) (nI (k % 31)) (38 + w)) _ (n - 1)
    rw [e]
    exact moI_congr (n - 1) (fun w hw => ⟨hutV_m N.hL N.hg z.1 (by omega), rfl⟩)
theorem best31 {g2 : MM} {q : Int32} {k : Nat} {v : Int32} (hk : k < 2000) (h6 : g2 27 6 = nI k) (h5 : g2 27 5 = v) : (if q = 0 then g2 27 6 / 31 else if q = 1 then g2 27 6 - g2 27 6 / 31 * 31 else g2 27 5) = (if q = 0 then nI (k / 31) else if q = 1 then nI (k % 31) else v) := by
  rw [h6, h5, div31 hk, ← rem31 hk, div31 hk]
set_option maxRecDepth 100000 in
set_option maxHeartbeats 4000000 in
theorem c_X8_soonest {G : GG} {kn : Nat} {f : MM} {n L g : Nat} (W : WayIs f 4 (f 89) n L g) (hT : ITold f) {a : Int32} : RI G mX8_soonest 8 kn [.ref (G.1 + 0), .int a] f (fun v g2 => v = R_soonest f n L g a ∧ agC f g2) := by
  refine Ct.of [some (.ref (G.1 + 0)), some (.int a)] rfl (by decide +kernel) rfl (Nat.le_of_ble_eq_true rfl) rfl ?_
  intro X C
  have N := W.now
  have hn6 := N.hn
  have hL8 := N.hL
  have hgL := N.hg
  have hc := N.pt.2.2.1
  have hwy := N.wy.2
  refine r_aload_n (pc := 0) C dX8_soonest_0 rfl ?_
  refine r_getr (pc := 1) C fX8_25 dX8_soonest_1 (s_0 _) rfl rfl ?_
  refine r_get (pc := 4) C fX8_134 dX8_soonest_4 (w_0 isW.now) rfl ?_
  refine q_val (f 85 4) hT.1 ?_
  refine r_if_ne (pc := 7) C 13 dX8_soonest_7 (by decide) (fun c7 => ?_) (fun c7 => ?_)
  · refine r_iload_n (pc := 13) C dX8_soonest_13 rfl ?_
    refine r_iconst (pc := 14) C (3) dX8_soonest_14 (by decide) ?_
    refine q_sIf (pc := 15) C kX8_58 dX8_soonest_15 (c_blw 3 rfl (by decide)) rfl rfl (Nat.le_of_ble_eq_true rfl) (by decide) ⟨by decide, by decide⟩ ?_
    refine r_if_ne (pc := 18) C 24 dX8_soonest_18 (by decide) (fun c18 => ?_) (fun c18 => ?_)
    · replace c18 := b1_1 c18
      refine r_aload_n (pc := 24) C dX8_soonest_24 rfl ?_
      refine r_getr (pc := 25) C fX8_46 dX8_soonest_25 (s_0 _) rfl rfl ?_
      refine r_aload_n (pc := 28) C dX8_soonest_28 rfl ?_
      refine r_getr (pc := 29) C fX8_25 dX8_soonest_29 (s_0 _) rfl rfl ?_
      refine q_vV (pc := 32) C kX8_201 dX8_soonest_32 (c_X2_findSoonest N) (s_27 _) rfl rfl (Nat.le_of_ble_eq_true rfl) (by decide) ⟨by decide, by decide⟩ ?_
      intro f32 h32
      refine r_aload_n (pc := 35) C dX8_soonest_35 rfl ?_
      refine r_getr (pc := 36) C fX8_46 dX8_soonest_36 (s_0 _) rfl rfl ?_
      refine r_iload_n (pc := 39) C dX8_soonest_39 rfl ?_
      refine q_vIf (pc := 40) C kX8_204 dX8_soonest_40 (c_X2_bestRule) (s_27 _) rfl rfl (Nat.le_of_ble_eq_true rfl) (by decide) ⟨by decide, by decide⟩ ?_
      refine q_iret (pc := 43) C dX8_soonest_43 rfl ?_
      refine ⟨?_, h32.1⟩
      have bd := clI_bd (v := soV n L g (f 89)) n124
      have hN := n124_eq
      rw [best31 (by omega) h32.2.1 h32.2.2.1, ← so_end N h32, R_soonest, if_neg c7, if_pos c18]
    · replace c18 := b1_0 c18
      refine r_ldc (pc := 21) C (-1000001) kX8_62 dX8_soonest_21 ?_
      refine q_iret (pc := 23) C dX8_soonest_23 rfl ?_
      exact ⟨by simp [R_soonest, c7, c18], agC.rf⟩
  · refine r_ldc (pc := 10) C (-1000002) kX8_143 dX8_soonest_10 ?_
    refine q_iret (pc := 12) C dX8_soonest_12 rfl ?_
    exact ⟨by simp [R_soonest, c7], agC.rf⟩
set_option maxRecDepth 100000 in
set_option maxHeartbeats 4000000 in
theorem c_X8_loses {G : GG} {kn : Nat} {f : MM} {n L g : Nat} (W : WayIs f 4 (f 89) n L g) {a : Int32} : RI G mX8_loses 7 kn [.ref (G.1 + 0), .int a] f (fun v g2 => v = R_loses f n L g a ∧ agC f g2) := by
  refine Ct.of [some (.ref (G.1 + 0)), some (.int a), none, none] rfl (by decide +kernel) rfl (Nat.le_of_ble_eq_true rfl) rfl ?_
  intro X C
  have N := W.now
  have hn6 := N.hn
  have hL8 := N.hL
  have hgL := N.hg
  have hc := N.pt.2.2.1
  have hwy := N.wy.2
  refine r_aload_n (pc := 0) C dX8_loses_0 rfl ?_
  refine r_iload_n (pc := 1) C dX8_loses_1 rfl ?_
  refine q_vIf (pc := 2) C kX8_157 dX8_loses_2 (c_X8_isWalker (n := n) hn6 N.pt.1) (s_0 _) rfl rfl (Nat.le_of_ble_eq_true rfl) (by decide) ⟨by decide, by decide⟩ ?_
  refine r_if_ne (pc := 5) C 11 dX8_loses_5 (by decide) (fun c5 => ?_) (fun c5 => ?_)
  · replace c5 := b1_1 c5
    obtain ⟨w, hw, rfl⟩ := inR_of c5
    have tw : tn (nI w) = w := tn_nI (by omega)
    refine r_aload_n (pc := 11) C dX8_loses_11 rfl ?_
    refine r_getr (pc := 12) C fX8_46 dX8_loses_12 (s_0 _) rfl rfl ?_
    refine r_getr (pc := 15) C fX8_200 dX8_loses_15 (s_27 _) rfl rfl ?_
    refine r_getr (pc := 18) C fX8_161 dX8_loses_18 (p_0 isP.go) rfl (p_t0 isP.go) ?_
    refine r_iload_n (pc := 21) C dX8_loses_21 rfl ?_
    refine q_aald (pc := 22) C w dX8_loses_22 (p_1 isP.go) (by decide) (p_1n isP.go) rfl (by omega) (by decide) (p_1t isP.go (by omega)) ?_
    refine r_astore_n (pc := 23) C dX8_loses_23 (by decide) rfl ?_
    refine r_aload_n (pc := 24) C dX8_loses_24 rfl ?_
    refine r_getr (pc := 25) C fX8_46 dX8_loses_25 (s_0 _) rfl rfl ?_
    refine r_aload_n (pc := 28) C dX8_loses_28 rfl ?_
    refine r_getr (pc := 29) C fX8_25 dX8_loses_29 (s_0 _) rfl rfl ?_
    refine r_aload_n (pc := 32) C dX8_loses_32 rfl ?_
    refine r_getr (pc := 33) C fX8_25 dX8_loses_33 (s_0 _) rfl rfl ?_
    refine r_get (pc := 36) C fX8_147 dX8_loses_36 (w_0 isW.now) rfl ?_
    refine q_val (f 89 10) N.ru ?_
    refine r_aload_n (pc := 39) C dX8_loses_39 rfl ?_
    refine r_getr (pc := 40) C fX8_25 dX8_loses_40 (s_0 _) rfl rfl ?_
    refine r_get (pc := 43) C fX8_150 dX8_loses_43 (w_0 isW.now) rfl ?_
    refine q_val (f 89 11) N.mi ?_
    refine q_vI (pc := 46) C kX8_196 dX8_loses_46 (c_X2_walkToHut N N.mb) (s_27 _) rfl rfl (Nat.le_of_ble_eq_true rfl) (by decide) ⟨by decide, by decide⟩ ?_
    intro v46 f46 h46
    obtain ⟨l2, hl2, hP⟩ := h46.2.1
    have N2 := N.ag h46.2.2.toC
    refine r_pop (pc := 49) C dX8_loses_49 rfl ?_
    refine r_aload_n (pc := 50) C dX8_loses_50 rfl ?_
    refine r_get (pc := 51) C fX8_180 dX8_loses_51 (k_0 (isK.of isP.go (by omega))) rfl ?_
    refine r_istore_n (pc := 54) C dX8_loses_54 (by decide) rfl ?_
    refine r_aload_n (pc := 55) C dX8_loses_55 rfl ?_
    refine r_getr (pc := 56) C fX8_46 dX8_loses_56 (s_0 _) rfl rfl ?_
    refine r_aload_n (pc := 59) C dX8_loses_59 rfl ?_
    refine r_getr (pc := 60) C fX8_25 dX8_loses_60 (s_0 _) rfl rfl ?_
    refine r_iconst (pc := 63) C (3) dX8_loses_63 (by decide) ?_
    refine r_iconst (pc := 64) C (0) dX8_loses_64 (by decide) ?_
    refine q_vI (pc := 65) C kX8_196 dX8_loses_65 (c_X2_walkToHut N2 (by decide)) (s_27 _) rfl rfl (Nat.le_of_ble_eq_true rfl) (by decide) ⟨by decide, by decide⟩ ?_
    intro v65 f65 h65
    obtain ⟨l3, hl3, hP2⟩ := h65.2.1
    refine r_pop (pc := 68) C dX8_loses_68 rfl ?_
    refine r_iload_n (pc := 69) C dX8_loses_69 rfl ?_
    refine r_aload_n (pc := 70) C dX8_loses_70 rfl ?_
    refine r_get (pc := 71) C fX8_180 dX8_loses_71 (k_0 (isK.of isP.go (by omega))) rfl ?_
    refine r_isub (pc := 74) C dX8_loses_74 ?_
    refine q_iret (pc := 75) C dX8_loses_75 rfl ?_
    refine ⟨?_, h46.2.2.toC.trans h65.2.2.toC⟩
    have e1 := hP.2.2.1 w hw 4 (by decide)
    have e2 := hP2.2.2.1 w hw 4 (by decide)
    rw [h46.2.2 89 (by omega)] at e2
    simp [R_loses, c5, tw]
    exact congr (congrArg HSub.hSub e1) e2
  · replace c5 := b1_0 c5
    refine r_ldc (pc := 8) C (-1000001) kX8_62 dX8_loses_8 ?_
    refine q_iret (pc := 10) C dX8_loses_10 rfl ?_
    exact ⟨by simp [R_loses, c5], agC.rf⟩
set_option maxRecDepth 100000 in
set_option maxHeartbeats 4000000 in
theorem c_X8_fair {G : GG} {kn : Nat} {f : MM} {n L g : Nat} (W : WayIs f 4 (f 89) n L g) (hT : ITold f) {a : Int32} : RI G mX8_fair 8 kn [.ref (G.1 + 0), .int a] f (fun v g2 => v = R_fair f n L g a ∧ agC f g2) := by
  refine Ct.of [some (.ref (G.1 + 0)), some (.int a)] rfl (by decide +kernel) rfl (Nat.le_of_ble_eq_true rfl) rfl ?_
  intro X C
  have N := W.now
  have hn6 := N.hn
  have hL8 := N.hL
  have hgL := N.hg
  have hc := N.pt.2.2.1
  have hwy := N.wy.2
  refine r_aload_n (pc := 0) C dX8_fair_0 rfl ?_
  refine r_getr (pc := 1) C fX8_25 dX8_fair_1 (s_0 _) rfl rfl ?_
  refine r_get (pc := 4) C fX8_134 dX8_fair_4 (w_0 isW.now) rfl ?_
  refine q_val (f 85 4) hT.1 ?_
  refine r_if_ne (pc := 7) C 13 dX8_fair_7 (by decide) (fun c7 => ?_) (fun c7 => ?_)
  · refine r_iload_n (pc := 13) C dX8_fair_13 rfl ?_
    refine r_iconst (pc := 14) C (3) dX8_fair_14 (by decide) ?_
    refine q_sIf (pc := 15) C kX8_58 dX8_fair_15 (c_blw 3 rfl (by decide)) rfl rfl (Nat.le_of_ble_eq_true rfl) (by decide) ⟨by decide, by decide⟩ ?_
    refine r_if_ne (pc := 18) C 24 dX8_fair_18 (by decide) (fun c18 => ?_) (fun c18 => ?_)
    · replace c18 := b1_1 c18
      refine r_aload_n (pc := 24) C dX8_fair_24 rfl ?_
      refine r_getr (pc := 25) C fX8_25 dX8_fair_25 (s_0 _) rfl rfl ?_
      refine r_getr (pc := 28) C fX8_124 dX8_fair_28 (w_0 isW.now) rfl (w_t1 isW.now) ?_
      refine r_get (pc := 31) C fX8_128 dX8_fair_31 (p_0 (isP.way isW.now)) rfl ?_
      refine q_is (n) N.pt.1 ?_
      refine r_if_ne (pc := 34) C 40 dX8_fair_34 (by decide) (fun c34 => ?_) (fun c34 => ?_)
      · have n0 : ¬ n = 0 := fun q => c34 ((nIz (by omega)).mpr q)
        refine r_aload_n (pc := 40) C dX8_fair_40 rfl ?_
        refine r_getr (pc := 41) C fX8_46 dX8_fair_41 (s_0 _) rfl rfl ?_
        refine r_aload_n (pc := 44) C dX8_fair_44 rfl ?_
        refine r_getr (pc := 45) C fX8_25 dX8_fair_45 (s_0 _) rfl rfl ?_
        refine q_vV (pc := 48) C kX8_207 dX8_fair_48 (c_X2_findFair N (by omega)) (s_27 _) rfl rfl (Nat.le_of_ble_eq_true rfl) (by decide) ⟨by decide, by decide⟩ ?_
        intro f48 h48
        refine r_aload_n (pc := 51) C dX8_fair_51 rfl ?_
        refine r_getr (pc := 52) C fX8_46 dX8_fair_52 (s_0 _) rfl rfl ?_
        refine r_iload_n (pc := 55) C dX8_fair_55 rfl ?_
        refine q_vIf (pc := 56) C kX8_204 dX8_fair_56 (c_X2_bestRule) (s_27 _) rfl rfl (Nat.le_of_ble_eq_true rfl) (by decide) ⟨by decide, by decide⟩ ?_
        refine q_iret (pc := 59) C dX8_fair_59 rfl ?_
        refine ⟨?_, h48.1⟩
        have bd := clI_bd (v := faV n L g (f 89)) n124
        have hN := n124_eq
        have fe := fa_end N (by omega) h48
        rw [R_fair, if_neg c7, if_pos c18, if_neg n0]
        dsimp only
        rw [fe.1, fe.2, h48.2.1, h48.2.2.1]
        rfl
      · have n0 : n = 0 := (nIz (by omega)).mp c34
        refine r_ldc (pc := 37) C (-1000000) kX8_192 dX8_fair_37 ?_
        refine q_iret (pc := 39) C dX8_fair_39 rfl ?_
        exact ⟨by simp [R_fair, c7, c18, n0], agC.rf⟩
    · replace c18 := b1_0 c18
      refine r_ldc (pc := 21) C (-1000001) kX8_62 dX8_fair_21 ?_
      refine q_iret (pc := 23) C dX8_fair_23 rfl ?_
      exact ⟨by simp [R_fair, c7, c18], agC.rf⟩
  · refine r_ldc (pc := 10) C (-1000002) kX8_143 dX8_fair_10 ?_
    refine q_iret (pc := 12) C dX8_fair_12 rfl ?_
    exact ⟨by simp [R_fair, c7], agC.rf⟩
theorem inR1_m1 {n : Nat} : inR1 (-1) (-1) ((n : Int) - 1) = true := by
  unfold inR1
  refine decide_eq_true ⟨by decide, ?_⟩
  have : (-1 : Int32).toInt = -1 := by decide
  omega
theorem inR1_yes {x : Int32} {n : Nat} (h : inR x n = true) : inR1 x (-1) ((n : Int) - 1) = true := by
  have q := of_decide_eq_true h
  exact decide_eq_true ⟨by omega, by omega⟩
theorem inR1_no {x : Int32} {n : Nat} (h : inR x n = false) (h2 : ¬ x = -1) : inR1 x (-1) ((n : Int) - 1) = false := by
  have q := of_decide_eq_false h
  refine decide_eq_false (fun z => ?_)
  have e : ¬ x.toInt = -1 := fun w => h2 (Int32.toInt_inj.mp w)
  omega
set_option maxRecDepth 100000 in
set_option maxHeartbeats 4000000 in
theorem c_X8_sacks {G : GG} {kn : Nat} {f : MM} {n L g : Nat} (W : WayIs f 4 (f 89) n L g) (hT : ITold f) {a : Int32} : RI G mX8_sacks 7 kn [.ref (G.1 + 0), .int a] f (fun v g2 => v = R_sacks f n L g a ∧ agC f g2) := by
  refine Ct.of [some (.ref (G.1 + 0)), some (.int a)] rfl (by decide +kernel) rfl (Nat.le_of_ble_eq_true rfl) rfl ?_
  intro X C
  have N := W.now
  have hn6 := N.hn
  have hL8 := N.hL
  have hgL := N.hg
  have hc := N.pt.2.2.1
  have hwy := N.wy.2
  refine r_aload_n (pc := 0) C dX8_sacks_0 rfl ?_
  refine r_getr (pc := 1) C fX8_25 dX8_sacks_1 (s_0 _) rfl rfl ?_
  refine r_get (pc := 4) C fX8_134 dX8_sacks_4 (w_0 isW.now) rfl ?_
  refine q_val (f 85 4) hT.1 ?_
  refine r_if_ne (pc := 7) C 13 dX8_sacks_7 (by decide) (fun c7 => ?_) (fun c7 => ?_)
  · refine r_iload_n (pc := 13) C dX8_sacks_13 rfl ?_
    refine r_iconst (pc := 14) C (-1) dX8_sacks_14 (by decide) ?_
    refine r_icmp_eq (pc := 15) C 29 dX8_sacks_15 (by decide) (fun c15 => ?_) (fun c15 => ?_)
    · refine r_aload_n (pc := 29) C dX8_sacks_29 rfl ?_
      refine r_getr (pc := 30) C fX8_46 dX8_sacks_30 (s_0 _) rfl rfl ?_
      refine r_aload_n (pc := 33) C dX8_sacks_33 rfl ?_
      refine r_getr (pc := 34) C fX8_25 dX8_sacks_34 (s_0 _) rfl rfl ?_
      refine q_vV (pc := 37) C kX8_210 dX8_sacks_37 (c_X2_findSacks N) (s_27 _) rfl rfl (Nat.le_of_ble_eq_true rfl) (by decide) ⟨by decide, by decide⟩ ?_
      intro f37 h37
      refine r_iload_n (pc := 40) C dX8_sacks_40 rfl ?_
      refine r_iconst (pc := 41) C (-1) dX8_sacks_41 (by decide) ?_
      refine r_icmp_ne (pc := 42) C 55 dX8_sacks_42 (by decide) (fun c42 => ?_) (fun c42 => ?_)
      · exact absurd c15 c42
      · refine r_aload_n (pc := 45) C dX8_sacks_45 rfl ?_
        refine r_getr (pc := 46) C fX8_46 dX8_sacks_46 (s_0 _) rfl rfl ?_
        refine r_get (pc := 49) C fX8_213 dX8_sacks_49 (s_27 _) rfl ?_
        refine r_goto (pc := 52) C 64 dX8_sacks_52 (by decide) ?_
        refine q_iret (pc := 64) C dX8_sacks_64 rfl ?_
        refine ⟨?_, h37.1⟩
        obtain ⟨le, bl, e, e5, eb⟩ := h37.2
        subst c15
        rw [R_sacks, if_neg c7, if_pos inR1_m1, e, e5]
        rfl
    · refine r_aload_n (pc := 18) C dX8_sacks_18 rfl ?_
      refine r_iload_n (pc := 19) C dX8_sacks_19 rfl ?_
      refine q_vIf (pc := 20) C kX8_157 dX8_sacks_20 (c_X8_isWalker (n := n) hn6 N.pt.1) (s_0 _) rfl rfl (Nat.le_of_ble_eq_true rfl) (by decide) ⟨by decide, by decide⟩ ?_
      refine r_if_ne (pc := 23) C 29 dX8_sacks_23 (by decide) (fun c23 => ?_) (fun c23 => ?_)
      · replace c23 := b1_1 c23
        obtain ⟨j, hj, rfl⟩ := inR_of c23
        have tj : tn (nI j) = j := tn_nI (by omega)
        refine r_aload_n (pc := 29) C dX8_sacks_29 rfl ?_
        refine r_getr (pc := 30) C fX8_46 dX8_sacks_30 (s_0 _) rfl rfl ?_
        refine r_aload_n (pc := 33) C dX8_sacks_33 rfl ?_
        refine r_getr (pc := 34) C fX8_25 dX8_sacks_34 (s_0 _) rfl rfl ?_
        refine q_vV (pc := 37) C kX8_210 dX8_sacks_37 (c_X2_findSacks N) (s_27 _) rfl rfl (Nat.le_of_ble_eq_true rfl) (by decide) ⟨by decide, by decide⟩ ?_
        intro f37 h37
        refine r_iload_n (pc := 40) C dX8_sacks_40 rfl ?_
        refine r_iconst (pc := 41) C (-1) dX8_sacks_41 (by decide) ?_
        refine r_icmp_ne (pc := 42) C 55 dX8_sacks_42 (by decide) (fun c42 => ?_) (fun c42 => ?_)
        · obtain ⟨le, bl, e, e5, eb⟩ := h37.2
          refine r_aload_n (pc := 55) C dX8_sacks_55 rfl ?_
          refine r_getr (pc := 56) C fX8_46 dX8_sacks_56 (s_0 _) rfl rfl ?_
          refine r_getr (pc := 59) C fX8_216 dX8_sacks_59 (s_27 _) rfl rfl ?_
          refine r_iload_n (pc := 62) C dX8_sacks_62 rfl ?_
          refine q_iald (pc := 63) C j dX8_sacks_63 (s_46 _) (sn_46 _) rfl (by omega) (by decide) ?_
          refine q_iret (pc := 64) C dX8_sacks_64 rfl ?_
          rw [R_sacks, if_neg c7, if_pos (inR1_yes (inR_nI hj (by omega))), e, eb.2.2 j hj]
          refine ⟨?_, h37.1⟩
          dsimp only
          rw [if_pos (nn_nI (by omega)), tj]
        · refine r_aload_n (pc := 45) C dX8_sacks_45 rfl ?_
          refine r_getr (pc := 46) C fX8_46 dX8_sacks_46 (s_0 _) rfl rfl ?_
          refine r_get (pc := 49) C fX8_213 dX8_sacks_49 (s_27 _) rfl ?_
          refine r_goto (pc := 52) C 64 dX8_sacks_52 (by decide) ?_
          refine q_iret (pc := 64) C dX8_sacks_64 rfl ?_
          exact absurd c42 c15
      · replace c23 := b1_0 c23
        refine r_ldc (pc := 26) C (-1000001) kX8_62 dX8_sacks_26 ?_
        refine q_iret (pc := 28) C dX8_sacks_28 rfl ?_
        refine ⟨?_, agC.rf⟩
        rw [R_sacks, if_neg c7, if_neg (by rw [inR1_no c23 c15]; decide)]
  · refine r_ldc (pc := 10) C (-1000002) kX8_143 dX8_sacks_10 ?_
    refine q_iret (pc := 12) C dX8_sacks_12 rfl ?_
    exact ⟨by simp [R_sacks, c7], agC.rf⟩
set_option maxRecDepth 100000 in
set_option maxHeartbeats 4000000 in
theorem c_X8_parties {G : GG} {kn : Nat} {f : MM} {n L g : Nat} (W : WayIs f 4 (f 89) n L g) (hT : ITold f) {a : Int32} : RI G mX8_parties 8 kn [.ref (G.1 + 0), .int a] f (fun v g2 => v = R_parties f n L g a ∧ agC f g2) := by
  refine Ct.of [some (.ref (G.1 + 0)), some (.int a)] rfl (by decide +kernel) rfl (Nat.le_of_ble_eq_true rfl) rfl ?_
  intro X C
  have N := W.now
  have hn6 := N.hn
  have hL8 := N.hL
  have hgL := N.hg
  have hc := N.pt.2.2.1
  have hwy := N.wy.2
  refine r_aload_n (pc := 0) C dX8_parties_0 rfl ?_
  refine r_getr (pc := 1) C fX8_25 dX8_parties_1 (s_0 _) rfl rfl ?_
  refine r_get (pc := 4) C fX8_134 dX8_parties_4 (w_0 isW.now) rfl ?_
  refine q_val (f 85 4) hT.1 ?_
  refine r_if_ne (pc := 7) C 13 dX8_parties_7 (by decide) (fun c7 => ?_) (fun c7 => ?_)
  · refine r_iload_n (pc := 13) C dX8_parties_13 rfl ?_
    refine r_iconst (pc := 14) C (2) dX8_parties_14 (by decide) ?_
    refine q_sIf (pc := 15) C kX8_58 dX8_parties_15 (c_blw 2 rfl (by decide)) rfl rfl (Nat.le_of_ble_eq_true rfl) (by decide) ⟨by decide, by decide⟩ ?_
    refine r_if_ne (pc := 18) C 24 dX8_parties_18 (by decide) (fun c18 => ?_) (fun c18 => ?_)
    · replace c18 := b1_1 c18
      refine r_aload_n (pc := 24) C dX8_parties_24 rfl ?_
      refine r_getr (pc := 25) C fX8_46 dX8_parties_25 (s_0 _) rfl rfl ?_
      refine r_aload_n (pc := 28) C dX8_parties_28 rfl ?_
      refine r_getr (pc := 29) C fX8_25 dX8_parties_29 (s_0 _) rfl rfl ?_
      refine q_vV (pc := 32) C kX8_219 dX8_parties_32 (c_X2_findParties N) (s_27 _) rfl rfl (Nat.le_of_ble_eq_true rfl) (by decide) ⟨by decide, by decide⟩ ?_
      intro f32 h32
      refine r_iload_n (pc := 35) C dX8_parties_35 rfl ?_
      refine r_if_ne (pc := 36) C 49 dX8_parties_36 (by decide) (fun c36 => ?_) (fun c36 => ?_)
      · refine r_aload_n (pc := 49) C dX8_parties_49 rfl ?_
        refine r_getr (pc := 50) C fX8_46 dX8_parties_50 (s_0 _) rfl rfl ?_
        refine r_get (pc := 53) C fX8_213 dX8_parties_53 (s_27 _) rfl ?_
        refine q_iret (pc := 56) C dX8_parties_56 rfl ?_
        refine ⟨?_, h32.1⟩
        have c0 : 0 < cnt n := by have := (cnt_le n hn6).2 0; omega
        have q := (so_clP h32.2.2.2 (cnt n - 1) (by omega)).1
        rw [show cnt n - 1 + 1 = cnt n by omega] at q
        rw [R_parties, if_neg c7, if_pos c18, q]
        dsimp only
        rw [if_neg c36]
        exact h32.2.2.1
      · refine r_aload_n (pc := 39) C dX8_parties_39 rfl ?_
        refine r_getr (pc := 40) C fX8_46 dX8_parties_40 (s_0 _) rfl rfl ?_
        refine r_get (pc := 43) C fX8_222 dX8_parties_43 (s_27 _) rfl ?_
        refine r_goto (pc := 46) C 56 dX8_parties_46 (by decide) ?_
        refine q_iret (pc := 56) C dX8_parties_56 rfl ?_
        refine ⟨?_, h32.1⟩
        have c0 : 0 < cnt n := by have := (cnt_le n hn6).2 0; omega
        have q := (so_clP h32.2.2.2 (cnt n - 1) (by omega)).1
        rw [show cnt n - 1 + 1 = cnt n by omega] at q
        rw [R_parties, if_neg c7, if_pos c18, q]
        dsimp only
        rw [if_pos c36]
        exact h32.2.1
    · replace c18 := b1_0 c18
      refine r_ldc (pc := 21) C (-1000001) kX8_62 dX8_parties_21 ?_
      refine q_iret (pc := 23) C dX8_parties_23 rfl ?_
      exact ⟨by simp [R_parties, c7, c18], agC.rf⟩
  · refine r_ldc (pc := 10) C (-1000002) kX8_143 dX8_parties_10 ?_
    refine q_iret (pc := 12) C dX8_parties_12 rfl ?_
    exact ⟨by simp [R_parties, c7], agC.rf⟩
set_option maxRecDepth 100000 in
set_option maxHeartbeats 4000000 in
theorem c_X8_turn {G : GG} {kn : Nat} {f : MM} {n L g : Nat} (W : WayIs f 4 (f 89) n L g) (hT : ITold f) : RI G mX8_turn 6 kn [.ref (G.1 + 0)] f (fun v g2 => v = R_turn f n L g ∧ agC f g2) := by
  refine Ct.of [some (.ref (G.1 + 0))] rfl (by decide +kernel) rfl (Nat.le_of_ble_eq_true rfl) rfl ?_
  intro X C
  have N := W.now
  have hn6 := N.hn
  have hL8 := N.hL
  have hgL := N.hg
  have hc := N.pt.2.2.1
  have hwy := N.wy.2
  refine r_aload_n (pc := 0) C dX8_turn_0 rfl ?_
  refine r_getr (pc := 1) C fX8_25 dX8_turn_1 (s_0 _) rfl rfl ?_
  refine r_get (pc := 4) C fX8_134 dX8_turn_4 (w_0 isW.now) rfl ?_
  refine q_val (f 85 4) hT.1 ?_
  refine r_if_eq (pc := 7) C 24 dX8_turn_7 (by decide) (fun c7 => ?_) (fun c7 => ?_)
  · refine r_ldc (pc := 24) C (-1000002) kX8_143 dX8_turn_24 ?_
    refine q_iret (pc := 26) C dX8_turn_26 rfl ?_
    exact ⟨by simp [R_turn, c7], agC.rf⟩
  · refine r_aload_n (pc := 10) C dX8_turn_10 rfl ?_
    refine r_getr (pc := 11) C fX8_46 dX8_turn_11 (s_0 _) rfl rfl ?_
    refine r_aload_n (pc := 14) C dX8_turn_14 rfl ?_
    refine r_getr (pc := 15) C fX8_25 dX8_turn_15 (s_0 _) rfl rfl ?_
    refine q_vI (pc := 18) C kX8_225 dX8_turn_18 (c_X2_lastTurn N W.2.2.2.2.2.2.2.2) (s_27 _) rfl rfl (Nat.le_of_ble_eq_true rfl) (by decide) ⟨by decide, by decide⟩ ?_
    intro v18 f18 h18
    refine r_goto (pc := 21) C 26 dX8_turn_21 (by decide) ?_
    refine q_iret (pc := 26) C dX8_turn_26 rfl ?_
    exact ⟨by simp [R_turn, c7]; exact h18.1, h18.2⟩
def CR_fits (f : MM) (s : Option Int32) (g2 : MM) : Prop := match s with
  | none => g2 = f
  | some x => ∃ g3, agC f g3 ∧ g2 = u2 g3 0 8 x
theorem inR1_lo {x : Int32} {hi : Int} (h : x < 1) : inR1 x 1 hi = false := by
  refine decide_eq_false (fun q => ?_)
  have z : (1 : Int32).toInt = 1 := by decide
  rw [ti_lt] at h
  omega
theorem inR1_hi {x : Int32} {lo : Int} (h : 8 < x) : inR1 x lo 8 = false := by
  refine decide_eq_false (fun q => ?_)
  have z : (8 : Int32).toInt = 8 := by decide
  rw [ti_lt] at h
  omega
theorem inR1_18 {x : Int32} (h : ¬ x < 1) (h2 : ¬ 8 < x) : inR1 x 1 8 = true := by
  refine decide_eq_true ?_
  have z : (8 : Int32).toInt = 8 := by decide
  have z1 : (1 : Int32).toInt = 1 := by decide
  rw [ti_lt] at h h2
  omega
set_option maxRecDepth 100000 in
set_option maxHeartbeats 4000000 in
theorem c_X8_fits {G : GG} {kn : Nat} {f : MM} {n L g : Nat} (W : WayIs f 4 (f 89) n L g) (hR : IRow f) {a b c d e : Int32} : RI G mX8_fits 7 kn [.ref (G.1 + 0), .int a, .int b, .int c, .int d, .int e] f (fun v g2 => v = (R_fits f n L g a b c d e).1 ∧ CR_fits f (R_fits f n L g a b c d e).2 g2) := by
  refine Ct.of [some (.ref (G.1 + 0)), some (.int a), some (.int b), some (.int c), some (.int d), some (.int e), none] rfl (by decide +kernel) rfl (Nat.le_of_ble_eq_true rfl) rfl ?_
  intro X C
  have N := W.now
  have hn6 := N.hn
  have hL8 := N.hL
  have hgL := N.hg
  have hc := N.pt.2.2.1
  have hwy := N.wy.2
  refine r_aload_n (pc := 0) C dX8_fits_0 rfl ?_
  refine r_iload_n (pc := 1) C dX8_fits_1 rfl ?_
  refine q_vIf (pc := 2) C kX8_157 dX8_fits_2 (c_X8_isWalker (n := n) hn6 N.pt.1) (s_0 _) rfl rfl (Nat.le_of_ble_eq_true rfl) (by decide) ⟨by decide, by decide⟩ ?_
  refine r_if_eq (pc := 5) C 17 dX8_fits_5 (by decide) (fun c5 => ?_) (fun c5 => ?_)
  · replace c5 := b1_0 c5
    refine r_ldc (pc := 17) C (-1000001) kX8_62 dX8_fits_17 ?_
    refine q_iret (pc := 19) C dX8_fits_19 rfl ?_
    exact ⟨by simp [R_fits, c5], by simp [R_fits, CR_fits, c5]⟩
  · replace c5 := b1_1 c5
    obtain ⟨w, hw, rfl⟩ := inR_of c5
    have tw : tn (nI w) = w := tn_nI (by omega)
    refine r_iload_n (pc := 8) C dX8_fits_8 rfl ?_
    refine r_bipush (pc := 9) C (8) dX8_fits_9 (by decide) ?_
    refine q_sIf (pc := 11) C kX8_58 dX8_fits_11 (c_blw 8 rfl (by decide)) rfl rfl (Nat.le_of_ble_eq_true rfl) (by decide) ⟨by decide, by decide⟩ ?_
    refine r_if_ne (pc := 14) C 20 dX8_fits_14 (by decide) (fun c14 => ?_) (fun c14 => ?_)
    · replace c14 := b1_1 c14
      obtain ⟨r, hr, rfl⟩ := inR_of c14
      have tr : tn (nI r) = r := tn_nI (by omega)
      refine r_iload (pc := 20) C dX8_fits_20 rfl ?_
      refine r_iconst (pc := 22) C (1) dX8_fits_22 (by decide) ?_
      refine r_icmp_lt (pc := 23) C 42 dX8_fits_23 (by decide) (fun c23 => ?_) (fun c23 => ?_)
      · have i1 := inR1_lo (hi := 8) c23
        refine r_ldc (pc := 42) C (-1000001) kX8_62 dX8_fits_42 ?_
        refine q_iret (pc := 44) C dX8_fits_44 rfl ?_
        exact ⟨by simp [R_fits, c5, tw, c14, tr, i1], by simp [R_fits, CR_fits, c5, tw, c14, tr, i1]⟩
      · refine r_iload (pc := 26) C dX8_fits_26 rfl ?_
        refine r_bipush (pc := 28) C (8) dX8_fits_28 (by decide) ?_
        refine r_icmp_gt (pc := 30) C 42 dX8_fits_30 (by decide) (fun c30 => ?_) (fun c30 => ?_)
        · have i1 := inR1_hi (lo := 1) c30
          refine r_ldc (pc := 42) C (-1000001) kX8_62 dX8_fits_42 ?_
          refine q_iret (pc := 44) C dX8_fits_44 rfl ?_
          exact ⟨by simp [R_fits, c5, tw, c14, tr, i1], by simp [R_fits, CR_fits, c5, tw, c14, tr, i1]⟩
        · have i1 := inR1_18 c23 c30
          obtain ⟨k1, hk1, hk8, rfl⟩ := inR1_of (hi := 8) i1
          have tk : tn (nI k1) = k1 := tn_nI (by omega)
          have ek : (nI k1).toInt = k1 := nI_toInt (by omega)
          refine r_iload (pc := 33) C dX8_fits_33 rfl ?_
          refine r_iconst (pc := 35) C (2) dX8_fits_35 (by decide) ?_
          refine q_sIf (pc := 36) C kX8_58 dX8_fits_36 (c_blw 2 rfl (by decide)) rfl rfl (Nat.le_of_ble_eq_true rfl) (by decide) ⟨by decide, by decide⟩ ?_
          refine r_if_ne (pc := 39) C 45 dX8_fits_39 (by decide) (fun c39 => ?_) (fun c39 => ?_)
          · replace c39 := b1_1 c39
            refine r_iload (pc := 45) C dX8_fits_45 rfl ?_
            refine r_aload_n (pc := 47) C dX8_fits_47 rfl ?_
            refine r_getr (pc := 48) C fX8_25 dX8_fits_48 (s_0 _) rfl rfl ?_
            refine r_get (pc := 51) C fX8_140 dX8_fits_51 (w_0 isW.now) rfl ?_
            refine r_aload_n (pc := 54) C dX8_fits_54 rfl ?_
            refine r_getr (pc := 55) C fX8_25 dX8_fits_55 (s_0 _) rfl rfl ?_
            refine r_get (pc := 58) C fX8_137 dX8_fits_58 (w_0 isW.now) rfl ?_
            refine r_isub (pc := 61) C dX8_fits_61 ?_
            refine q_is (L - g) (by rw [show f 4 3 = nI L from N.wy.1, show f 4 4 = nI g from N.gt]; exact pk_sub hgL) ?_
            refine q_le (pc := 62) C k1 (L - g) 68 rfl rfl (by omega) (by omega) dX8_fits_62 (by decide) (fun c62 => ?_) (fun c62 => ?_)
            · have j1 : (nI k1).toInt ≤ (L : Int) - g := by omega
              refine r_aload_n (pc := 68) C dX8_fits_68 rfl ?_
              refine r_getr (pc := 69) C fX8_11 dX8_fits_69 (s_0 _) rfl rfl ?_
              refine r_iload_n (pc := 72) C dX8_fits_72 rfl ?_
              refine q_aald (pc := 73) C r dX8_fits_73 (s_1 _) (by decide) (sn_1 _) rfl (by omega) (by decide) (ra_t (by omega)) ?_
              refine r_astore (pc := 74) C dX8_fits_74 (by decide) rfl ?_
              refine r_aload (pc := 76) C dX8_fits_76 rfl ?_
              refine r_get (pc := 78) C fX8_74 dX8_fits_78 (x_0 (by omega)) rfl ?_
              refine r_if_eq (pc := 81) C 90 dX8_fits_81 (by decide) (fun c81 => ?_) (fun c81 => ?_)
              · obtain ⟨m, hm, z1, z3, z2, zi⟩ := (hR r hr).here c81
                have h0 : 0 ≤ f 87 r := by rw [z1]; exact nn_nI (by omega)
                have tm : tn (f 87 r) = m := by rw [z1]; exact tn_nI (by omega)
                refine r_aload (pc := 90) C dX8_fits_90 rfl ?_
                refine r_iload_n (pc := 92) C dX8_fits_92 rfl ?_
                refine r_iload (pc := 93) C dX8_fits_93 rfl ?_
                refine q_vIf (pc := 95) C kX8_89 dX8_fits_95 (c_X5_holds (r := r) hr) (x_0 (by omega)) rfl rfl (Nat.le_of_ble_eq_true rfl) (by decide) ⟨by decide, by decide⟩ ?_
                rw [z3, hld_eq hm]
                refine r_if_ne (pc := 98) C 107 dX8_fits_98 (by decide) (fun c98 => ?_) (fun c98 => ?_)
                · replace c98 := b1_1 c98
                  obtain ⟨p1, w2, s1, rfl, e2⟩ := hold_of c98
                  obtain rfl : k1 = w2 := by
                    have := congrArg Int32.toNatClampNeg e2
                    rw [nI_clamp (by omega), nI_clamp (by omega)] at this
                    exact this
                  have tp1 : tn (nI p1) = p1 := tn_nI (by omega)
                  refine r_aload_n (pc := 107) C dX8_fits_107 rfl ?_
                  refine r_getr (pc := 108) C fX8_46 dX8_fits_108 (s_0 _) rfl rfl ?_
                  refine r_aload_n (pc := 111) C dX8_fits_111 rfl ?_
                  refine r_getr (pc := 112) C fX8_25 dX8_fits_112 (s_0 _) rfl rfl ?_
                  refine r_iload_n (pc := 115) C dX8_fits_115 rfl ?_
                  refine r_aload (pc := 116) C dX8_fits_116 rfl ?_
                  refine r_iload_n (pc := 118) C dX8_fits_118 rfl ?_
                  refine r_iload (pc := 119) C dX8_fits_119 rfl ?_
                  refine q_vV (pc := 121) C kX8_229 dX8_fits_121 (c_X2_findFits N (w := w) (r := r) (i0 := p1) (N1 := k1) hw hr (by omega) (by omega) (fun t ht => by rw [zi (p1 + t) (by omega), Nat.add_assoc])) (s_27 _) rfl rfl (Nat.le_of_ble_eq_true rfl) (by decide) ⟨by decide, by decide⟩ ?_
                  intro f121 h121
                  refine r_aload_n (pc := 124) C dX8_fits_124 rfl ?_
                  refine r_iload (pc := 125) C dX8_fits_125 rfl ?_
                  refine r_if_ne (pc := 127) C 140 dX8_fits_127 (by decide) (fun c127 => ?_) (fun c127 => ?_)
                  · refine r_aload_n (pc := 140) C dX8_fits_140 rfl ?_
                    refine r_getr (pc := 141) C fX8_46 dX8_fits_141 (s_0 _) rfl rfl ?_
                    refine r_get (pc := 144) C fX8_222 dX8_fits_144 (s_27 _) rfl ?_
                    refine q_vIf (pc := 147) C kX8_71 dX8_fits_147 (c_X8_foundNothing) (s_0 _) rfl rfl (Nat.le_of_ble_eq_true rfl) (by decide) ⟨by decide, by decide⟩ ?_
                    refine q_iret (pc := 150) C dX8_fits_150 rfl ?_
                    have eR : R_fits f n L g (nI w) (nI r) (nI p1) (nI k1) e = ((fun s => if e = 0 then nI s.1 else s.2) (fsI (fiV n L g w (f 89) (f 88) (40 * r + p1) k1) n94), some 0) := by simp [R_fits, c5, c14, i1, c39, j1, h0, tm, c98, tw, tr, tp1, tk]
                    rw [eR]
                    refine ⟨?_, f121, h121.1, rfl⟩
                    dsimp only
                    rw [if_neg c127]
                    exact h121.2.2
                  · refine r_aload_n (pc := 130) C dX8_fits_130 rfl ?_
                    refine r_getr (pc := 131) C fX8_46 dX8_fits_131 (s_0 _) rfl rfl ?_
                    refine r_get (pc := 134) C fX8_213 dX8_fits_134 (s_27 _) rfl ?_
                    refine r_goto (pc := 137) C 147 dX8_fits_137 (by decide) ?_
                    refine q_vIf (pc := 147) C kX8_71 dX8_fits_147 (c_X8_foundNothing) (s_0 _) rfl rfl (Nat.le_of_ble_eq_true rfl) (by decide) ⟨by decide, by decide⟩ ?_
                    refine q_iret (pc := 150) C dX8_fits_150 rfl ?_
                    have eR : R_fits f n L g (nI w) (nI r) (nI p1) (nI k1) e = ((fun s => if e = 0 then nI s.1 else s.2) (fsI (fiV n L g w (f 89) (f 88) (40 * r + p1) k1) n94), some 0) := by simp [R_fits, c5, c14, i1, c39, j1, h0, tm, c98, tw, tr, tp1, tk]
                    rw [eR]
                    refine ⟨?_, f121, h121.1, rfl⟩
                    dsimp only
                    rw [if_pos c127]
                    exact h121.2.1
                · replace c98 := b1_0 c98
                  refine r_aload_n (pc := 101) C dX8_fits_101 rfl ?_
                  refine r_iconst (pc := 102) C (2) dX8_fits_102 (by decide) ?_
                  refine q_vIf (pc := 103) C kX8_63 dX8_fits_103 (c_X8_found) (s_0 _) rfl rfl (Nat.le_of_ble_eq_true rfl) (by decide) ⟨by decide, by decide⟩ ?_
                  refine q_iret (pc := 106) C dX8_fits_106 rfl ?_
                  refine ⟨by simp [R_fits, c5, tw, c14, tr, i1, tk, c39, j1, h0, tm, c98], ?_⟩
                  simp [R_fits, CR_fits, c5, tw, c14, tr, i1, tk, c39, j1, h0, tm, c98]
                  exact ⟨f, agC.rf, rfl⟩
              · have z1 := (hR r hr).gone c81
                have h0 : ¬ 0 ≤ f 87 r := by rw [z1]; decide
                refine r_aload_n (pc := 84) C dX8_fits_84 rfl ?_
                refine r_iconst (pc := 85) C (1) dX8_fits_85 (by decide) ?_
                refine q_vIf (pc := 86) C kX8_63 dX8_fits_86 (c_X8_found) (s_0 _) rfl rfl (Nat.le_of_ble_eq_true rfl) (by decide) ⟨by decide, by decide⟩ ?_
                refine q_iret (pc := 89) C dX8_fits_89 rfl ?_
                refine ⟨by simp [R_fits, c5, tw, c14, tr, i1, tk, c39, j1, h0], ?_⟩
                simp [R_fits, CR_fits, c5, tw, c14, tr, i1, tk, c39, j1, h0]
                exact ⟨f, agC.rf, rfl⟩
            · have j1 : ¬ (nI k1).toInt ≤ (L : Int) - g := by omega
              refine r_ldc (pc := 65) C (-1000002) kX8_143 dX8_fits_65 ?_
              refine q_iret (pc := 67) C dX8_fits_67 rfl ?_
              exact ⟨by simp [R_fits, c5, tw, c14, tr, i1, tk, c39, j1], by simp [R_fits, CR_fits, c5, tw, c14, tr, i1, tk, c39, j1]⟩
          · replace c39 := b1_0 c39
            refine r_ldc (pc := 42) C (-1000001) kX8_62 dX8_fits_42 ?_
            refine q_iret (pc := 44) C dX8_fits_44 rfl ?_
            exact ⟨by simp [R_fits, c5, tw, c14, tr, i1, tk, c39], by simp [R_fits, CR_fits, c5, tw, c14, tr, i1, tk, c39]⟩
    · replace c14 := b1_0 c14
      refine r_ldc (pc := 17) C (-1000001) kX8_62 dX8_fits_17 ?_
      refine q_iret (pc := 19) C dX8_fits_19 rfl ?_
      exact ⟨by simp [R_fits, c5, tw, c14], by simp [R_fits, CR_fits, c5, tw, c14]⟩
def CR_as (f : MM) (n : Nat) (w k : Int32) : MM := if inR w n = true then if inR k 6 = true then if isKd (f 89 (14 + tn w)) k = true then u2 f 0 8 0 else u2 f 0 8 3 else f else f
set_option maxRecDepth 100000 in
set_option maxHeartbeats 4000000 in
theorem c_X8_as {G : GG} {kn : Nat} {f : MM} {n L g : Nat} (W : WayIs f 4 (f 89) n L g) {a b : Int32} : CI G mX8_as 3 kn [.ref (G.1 + 0), .int a, .int b] f (R_as f n a b).1 (CR_as f n a b) := by
  refine Ct.of [some (.ref (G.1 + 0)), some (.int a), some (.int b)] rfl (by decide +kernel) rfl (Nat.le_of_ble_eq_true rfl) rfl ?_
  intro X C
  have N := W.now
  have hn6 := N.hn
  have hL8 := N.hL
  have hgL := N.hg
  have hc := N.pt.2.2.1
  have hwy := N.wy.2
  refine r_aload_n (pc := 0) C dX8_as_0 rfl ?_
  refine r_iload_n (pc := 1) C dX8_as_1 rfl ?_
  refine q_vIf (pc := 2) C kX8_157 dX8_as_2 (c_X8_isWalker (n := n) hn6 N.pt.1) (s_0 _) rfl rfl (Nat.le_of_ble_eq_true rfl) (by decide) ⟨by decide, by decide⟩ ?_
  refine r_if_eq (pc := 5) C 17 dX8_as_5 (by decide) (fun c5 => ?_) (fun c5 => ?_)
  · replace c5 := b1_0 c5
    refine r_ldc (pc := 17) C (-1000001) kX8_62 dX8_as_17 ?_
    refine q_iret (pc := 19) C dX8_as_19 rfl ?_
    exact ⟨by simp [R_as, c5], by simp [CR_as, c5]⟩
  · replace c5 := b1_1 c5
    obtain ⟨w, hw, rfl⟩ := inR_of c5
    have tw : tn (nI w) = w := tn_nI (by omega)
    refine r_iload_n (pc := 8) C dX8_as_8 rfl ?_
    refine r_bipush (pc := 9) C (6) dX8_as_9 (by decide) ?_
    refine q_sIf (pc := 11) C kX8_58 dX8_as_11 (c_blw 6 rfl (by decide)) rfl rfl (Nat.le_of_ble_eq_true rfl) (by decide) ⟨by decide, by decide⟩ ?_
    refine r_if_ne (pc := 14) C 20 dX8_as_14 (by decide) (fun c14 => ?_) (fun c14 => ?_)
    · replace c14 := b1_1 c14
      refine r_aload_n (pc := 20) C dX8_as_20 rfl ?_
      refine r_getr (pc := 21) C fX8_25 dX8_as_21 (s_0 _) rfl rfl ?_
      refine r_getr (pc := 24) C fX8_124 dX8_as_24 (w_0 isW.now) rfl (w_t1 isW.now) ?_
      refine r_getr (pc := 27) C fX8_161 dX8_as_27 (p_0 (isP.way isW.now)) rfl (p_t0 (isP.way isW.now)) ?_
      refine r_iload_n (pc := 30) C dX8_as_30 rfl ?_
      refine q_aald (pc := 31) C w dX8_as_31 (p_1 (isP.way isW.now)) (by decide) (p_1n (isP.way isW.now)) rfl (by omega) (by decide) (p_1t (isP.way isW.now) (by omega)) ?_
      refine r_get (pc := 32) C fX8_233 dX8_as_32 (k_0 (isK.of (isP.way isW.now) (by omega))) rfl ?_
      refine r_iload_n (pc := 35) C dX8_as_35 rfl ?_
      refine q_sIf (pc := 36) C kX8_236 dX8_as_36 (c_X1_isSuch (W.kd hw)) rfl rfl (Nat.le_of_ble_eq_true rfl) (by decide) ⟨by decide, by decide⟩ ?_
      rw [show f (4 + 2 + 2 + w) 0 = f 89 (14 + w) from hc w hw 0 (by decide)]
      refine r_if_ne (pc := 39) C 48 dX8_as_39 (by decide) (fun c39 => ?_) (fun c39 => ?_)
      · replace c39 := b1_1 c39
        refine r_aload_n (pc := 48) C dX8_as_48 rfl ?_
        refine r_iload_n (pc := 49) C dX8_as_49 rfl ?_
        refine q_vIf (pc := 50) C kX8_71 dX8_as_50 (c_X8_foundNothing) (s_0 _) rfl rfl (Nat.le_of_ble_eq_true rfl) (by decide) ⟨by decide, by decide⟩ ?_
        refine q_iret (pc := 53) C dX8_as_53 rfl ?_
        exact ⟨by simp [R_as, c5, tw, c14, c39], by simp [CR_as, c5, tw, c14, c39]⟩
      · replace c39 := b1_0 c39
        refine r_aload_n (pc := 42) C dX8_as_42 rfl ?_
        refine r_iconst (pc := 43) C (3) dX8_as_43 (by decide) ?_
        refine q_vIf (pc := 44) C kX8_63 dX8_as_44 (c_X8_found) (s_0 _) rfl rfl (Nat.le_of_ble_eq_true rfl) (by decide) ⟨by decide, by decide⟩ ?_
        refine q_iret (pc := 47) C dX8_as_47 rfl ?_
        exact ⟨by simp [R_as, c5, tw, c14, c39], by simp [CR_as, c5, tw, c14, c39]⟩
    · replace c14 := b1_0 c14
      refine r_ldc (pc := 17) C (-1000001) kX8_62 dX8_as_17 ?_
      refine q_iret (pc := 19) C dX8_as_19 rfl ?_
      exact ⟨by simp [R_as, c5, tw, c14], by simp [CR_as, c5, tw, c14]⟩
def CR_ask (f : MM) (n : Nat) (w q : Int32) : MM := if inR w n = true then if inR q 2 = true then trC (u2 f 47 1 0) 0 (askV (f 89 (14 + tn w)) (f 89 (20 + tn w)) (f 89 (32 + tn w)) w q).2 else f else f
theorem R_ask_V {f : MM} {n w : Nat} {q : Int32} (hw : w < n) (hn : n ≤ 6) (h : inR q 2 = true) : R_ask f n (nI w) q = ((askV (f 89 (14 + w)) (f 89 (20 + w)) (f 89 (32 + w)) (nI w) q).1, trR (u2 f 85 27 0) 0 (askV (f 89 (14 + w)) (f 89 (20 + w)) (f 89 (32 + w)) (nI w) q).2) := by
  have e : u2 f 85 27 0 89 = f 89 := u2_row (by decide)
  rw [R_ask, if_pos (inR_nI hw (by omega)), if_pos h, szA_V, mkO_V, e, tn_nI (by omega)]
  unfold askV
  split <;> rfl
set_option maxRecDepth 100000 in
set_option maxHeartbeats 4000000 in
theorem c_X8_ask {G : GG} {kn : Nat} {f : MM} {n L g : Nat} (W : WayIs f 4 (f 89) n L g) {a b : Int32} : CI G mX8_ask 12 kn [.ref (G.1 + 0), .int a, .int b] f (R_ask f n a b).1 (CR_ask f n a b) := by
  refine Ct.of [some (.ref (G.1 + 0)), some (.int a), some (.int b)] rfl (by decide +kernel) rfl (Nat.le_of_ble_eq_true rfl) rfl ?_
  intro X C
  have N := W.now
  have hn6 := N.hn
  have hL8 := N.hL
  have hgL := N.hg
  have hc := N.pt.2.2.1
  have hwy := N.wy.2
  refine r_aload_n (pc := 0) C dX8_ask_0 rfl ?_
  refine r_iload_n (pc := 1) C dX8_ask_1 rfl ?_
  refine q_vIf (pc := 2) C kX8_157 dX8_ask_2 (c_X8_isWalker (n := n) hn6 N.pt.1) (s_0 _) rfl rfl (Nat.le_of_ble_eq_true rfl) (by decide) ⟨by decide, by decide⟩ ?_
  refine r_if_eq (pc := 5) C 16 dX8_ask_5 (by decide) (fun c5 => ?_) (fun c5 => ?_)
  · replace c5 := b1_0 c5
    refine r_ldc (pc := 16) C (-1000001) kX8_62 dX8_ask_16 ?_
    refine q_iret (pc := 18) C dX8_ask_18 rfl ?_
    exact ⟨by simp [R_ask, c5], by simp [CR_ask, c5]⟩
  · replace c5 := b1_1 c5
    obtain ⟨w, hw, rfl⟩ := inR_of c5
    have tw : tn (nI w) = w := tn_nI (by omega)
    refine r_iload_n (pc := 8) C dX8_ask_8 rfl ?_
    refine r_iconst (pc := 9) C (2) dX8_ask_9 (by decide) ?_
    refine q_sIf (pc := 10) C kX8_58 dX8_ask_10 (c_blw 2 rfl (by decide)) rfl rfl (Nat.le_of_ble_eq_true rfl) (by decide) ⟨by decide, by decide⟩ ?_
    refine r_if_ne (pc := 13) C 19 dX8_ask_13 (by decide) (fun c13 => ?_) (fun c13 => ?_)
    · replace c13 := b1_1 c13
      refine r_aload_n (pc := 19) C dX8_ask_19 rfl ?_
      refine r_getr (pc := 20) C fX8_53 dX8_ask_20 (s_0 _) rfl rfl ?_
      refine r_aload_n (pc := 23) C dX8_ask_23 rfl ?_
      refine r_getr (pc := 24) C fX8_25 dX8_ask_24 (s_0 _) rfl rfl ?_
      refine r_getr (pc := 27) C fX8_124 dX8_ask_27 (w_0 isW.now) rfl (w_t1 isW.now) ?_
      refine r_getr (pc := 30) C fX8_161 dX8_ask_30 (p_0 (isP.way isW.now)) rfl (p_t0 (isP.way isW.now)) ?_
      refine r_iload_n (pc := 33) C dX8_ask_33 rfl ?_
      refine q_aald (pc := 34) C w dX8_ask_34 (p_1 (isP.way isW.now)) (by decide) (p_1n (isP.way isW.now)) rfl (by omega) (by decide) (p_1t (isP.way isW.now) (by omega)) ?_
      refine r_iload_n (pc := 35) C dX8_ask_35 rfl ?_
      refine r_iload_n (pc := 36) C dX8_ask_36 rfl ?_
      refine q_vIf (pc := 37) C kX8_239 dX8_ask_37 (c_X1_answer (isK.of (isP.way isW.now) (show w < 6 by omega)) (by omega) (by omega) (W.kd hw)) (s_47 _) rfl rfl (Nat.le_of_ble_eq_true rfl) (by decide) ⟨by decide, by decide⟩ ?_
      refine q_iret (pc := 40) C dX8_ask_40 rfl ?_
      rw [show f (4 + 2 + 2 + w) 0 = f 89 (14 + w) from hc w hw 0 (by decide), show f (4 + 2 + 2 + w) 1 = f 89 (20 + w) from hc w hw 1 (by decide), show f (4 + 2 + 2 + w) 3 = f 89 (32 + w) from hc w hw 3 (by decide)]
      exact ⟨by rw [R_ask_V hw hn6 c13], by simp [CR_ask, c5, tw, c13]⟩
    · replace c13 := b1_0 c13
      refine r_ldc (pc := 16) C (-1000001) kX8_62 dX8_ask_16 ?_
      refine q_iret (pc := 18) C dX8_ask_18 rfl ?_
      exact ⟨by simp [R_ask, c5, tw, c13], by simp [CR_ask, c5, tw, c13]⟩
