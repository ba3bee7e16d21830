/-! ASKS: the class's asker -/
def tcF (f : MM) (t : Nat) (b : Int32) : MM := u2 (u2 f 48 t b) 47 1 (nI (t + 1))
theorem tcF_47 {f : MM} {t : Nat} {b : Int32} : tcF f t b 47 1 = nI (t + 1) := by simp [tcF, u2]
theorem tcF_a {f : MM} {t a : Nat} {b : Int32} (h : a ≠ 47) (h2 : a ≠ 48) : tcF f t b a = f a := by unfold tcF; rw [u2_row h, u2_row h2]
set_option maxRecDepth 100000 in
set_option maxHeartbeats 4000000 in
theorem c_X1_leaveTrace {G : GG} {kn : Nat} {f : MM} {t : Nat} (ht : t < 16) (h : f 47 1 = nI t) {a : Int32} : CV G mX1_leaveTrace 1 kn [.ref (G.1 + 47), .int a] f (tcF f t a) := by
  refine Ct.of [some (.ref (G.1 + 47)), some (.int a)] rfl (by decide +kernel) rfl (Nat.le_of_ble_eq_true rfl) rfl ?_
  intro X C
  refine r_aload_n (pc := 0) C dX1_leaveTrace_0 rfl ?_
  refine r_get (pc := 1) C fX1_18 dX1_leaveTrace_1 (s_47 _) rfl ?_
  refine r_aload_n (pc := 4) C dX1_leaveTrace_4 rfl ?_
  refine r_getr (pc := 5) C fX1_11 dX1_leaveTrace_5 (s_47 _) rfl rfl ?_
  refine r_alen (pc := 8) C (16) dX1_leaveTrace_8 ⟨(s_48 _).1, by rw [(s_48 _).2]; decide, by rw [(s_48 _).2]; decide⟩ (sn_48 _) rfl ?_
  refine q_ge (pc := 9) C t 16 32 h rfl (by omega) (by omega) dX1_leaveTrace_9 (by decide) (fun c9 => ?_) (fun c9 => ?_)
  · exact absurd c9 (by omega)
  · refine r_aload_n (pc := 12) C dX1_leaveTrace_12 rfl ?_
    refine r_getr (pc := 13) C fX1_11 dX1_leaveTrace_13 (s_47 _) rfl rfl ?_
    refine r_aload_n (pc := 16) C dX1_leaveTrace_16 rfl ?_
    refine r_get (pc := 17) C fX1_18 dX1_leaveTrace_17 (s_47 _) rfl ?_
    refine r_iload_n (pc := 20) C dX1_leaveTrace_20 rfl ?_
    refine q_iast (pc := 21) C t dX1_leaveTrace_21 (s_48 _) (sn_48 _) h (by omega) (by decide) ?_
    refine r_aload_n (pc := 22) C dX1_leaveTrace_22 rfl ?_
    refine r_dup (pc := 23) C dX1_leaveTrace_23 rfl ?_
    refine r_get (pc := 24) C fX1_18 dX1_leaveTrace_24 (s_47 _) rfl ?_
    refine r_iconst (pc := 27) C (1) dX1_leaveTrace_27 (by decide) ?_
    refine r_iadd (pc := 28) C dX1_leaveTrace_28 ?_
    refine q_is (t + 1) (nI_addE (by simp [u2, h]) rfl) ?_
    refine r_put (pc := 29) C fX1_18 ftX1_1 dX1_leaveTrace_29 (s_47 _) rfl ?_
    refine q_vret (pc := 32) C dX1_leaveTrace_32 rfl ?_
    rfl
set_option maxRecDepth 100000 in
set_option maxHeartbeats 4000000 in
theorem c_X1_isSuch {G : GG} {kn : Nat} {f : MM} {k w : Int32} (hk : k = 1 ∨ k = 2 ∨ k = 3 ∨ k = 4 ∨ k = 5) : CI G mX1_isSuch 1 kn [.int k, .int w] f (b1 (isKd k w)) f := by
  refine Ct.of [some (.int k), some (.int w), none, none] rfl (by decide +kernel) rfl (Nat.le_of_ble_eq_true rfl) rfl ?_
  intro X C
  rcases hk with rfl | rfl | rfl | rfl | rfl
  · skip
    refine r_iload_n (pc := 0) C dX1_isSuch_0 rfl ?_
    refine r_istore_n (pc := 1) C dX1_isSuch_1 (by decide) rfl ?_
    refine r_iconst (pc := 2) C (0) dX1_isSuch_2 (by decide) ?_
    refine r_istore_n (pc := 3) C dX1_isSuch_3 (by decide) rfl ?_
    refine r_iload_n (pc := 4) C dX1_isSuch_4 rfl ?_
    refine r_bipush (pc := 5) C (6) dX1_isSuch_5 (by decide) ?_
    refine q_ge (pc := 7) C 0 6 33 rfl rfl (by omega) (by omega) dX1_isSuch_7 (by decide) (fun c7 => ?_) (fun c7 => ?_)
    · exact absurd c7 (by omega)
    · refine r_iload_n (pc := 10) C dX1_isSuch_10 rfl ?_
      refine r_if_lt (pc := 11) C 33 dX1_isSuch_11 (by decide) (fun c11 => ?_) (fun c11 => ?_)
      · exact absurd c11 (by decide)
      · refine r_iload_n (pc := 14) C dX1_isSuch_14 rfl ?_
        refine r_iload_n (pc := 15) C dX1_isSuch_15 rfl ?_
        refine r_icmp_ne (pc := 16) C 21 dX1_isSuch_16 (by decide) (fun c16_1 => ?_) (fun c16_1 => ?_)
        · refine r_gets (t := 0) (pc := 21) C (by decide) kgX1_15 dX1_isSuch_21 ?_
          refine r_iload_n (pc := 24) C dX1_isSuch_24 rfl ?_
          refine r_tald (t := 0) (pc := 25) C (by decide) dX1_isSuch_25 (vp_in_nI (n := 1) (by decide) (by decide)) ?_
          refine q_val (0) (by decide) ?_
          refine r_istore_n (pc := 26) C dX1_isSuch_26 (by decide) rfl ?_
          refine r_iinc (pc := 27) C (nI (0 + 1)) dX1_isSuch_27 rfl (nI_inc _) (by decide) rfl ?_
          refine r_goto (pc := 30) C 4 dX1_isSuch_30 (by decide) ?_
          refine r_iload_n (pc := 4) C dX1_isSuch_4 rfl ?_
          refine r_bipush (pc := 5) C (6) dX1_isSuch_5 (by decide) ?_
          refine q_ge (pc := 7) C (0 + 1) 6 33 rfl rfl (by omega) (by omega) dX1_isSuch_7 (by decide) (fun c7 => ?_) (fun c7 => ?_)
          · exact absurd c7 (by omega)
          · refine r_iload_n (pc := 10) C dX1_isSuch_10 rfl ?_
            refine r_if_lt (pc := 11) C 33 dX1_isSuch_11 (by decide) (fun c11 => ?_) (fun c11 => ?_)
            · exact absurd c11 (by decide)
            · refine r_iload_n (pc := 14) C dX1_isSuch_14 rfl ?_
              refine r_iload_n (pc := 15) C dX1_isSuch_15 rfl ?_
              refine r_icmp_ne (pc := 16) C 21 dX1_isSuch_16 (by decide) (fun c16_2 => ?_) (fun c16_2 => ?_)
              · refine r_gets (t := 0) (pc := 21) C (by decide) kgX1_15 dX1_isSuch_21 ?_
                refine r_iload_n (pc := 24) C dX1_isSuch_24 rfl ?_
                refine r_tald (t := 0) (pc := 25) C (by decide) dX1_isSuch_25 (vp_in_nI (n := 0) (by decide) (by decide)) ?_
                refine q_val (-1) (by decide) ?_
                refine r_istore_n (pc := 26) C dX1_isSuch_26 (by decide) rfl ?_
                refine r_iinc (pc := 27) C (nI (0 + 1 + 1)) dX1_isSuch_27 rfl (nI_inc _) (by decide) rfl ?_
                refine r_goto (pc := 30) C 4 dX1_isSuch_30 (by decide) ?_
                refine r_iload_n (pc := 4) C dX1_isSuch_4 rfl ?_
                refine r_bipush (pc := 5) C (6) dX1_isSuch_5 (by decide) ?_
                refine q_ge (pc := 7) C (0 + 1 + 1) 6 33 rfl rfl (by omega) (by omega) dX1_isSuch_7 (by decide) (fun c7 => ?_) (fun c7 => ?_)
                · exact absurd c7 (by omega)
                · refine r_iload_n (pc := 10) C dX1_isSuch_10 rfl ?_
                  refine r_if_lt (pc := 11) C 33 dX1_isSuch_11 (by decide) (fun c11 => ?_) (fun c11 => ?_)
                  · refine r_iconst (pc := 33) C (0) dX1_isSuch_33 (by decide) ?_
                    refine q_zret (pc := 34) C dX1_isSuch_34 rfl (Or.inl rfl) ?_
                    refine ⟨?_, rfl⟩
                    unfold isKd
                    have z0 := c16_2
                    simp [b1, Ne.symm c16_1, c16_1, Ne.symm c16_2, c16_2]
                  · exact absurd c11 (by decide)
              · refine r_iconst (pc := 19) C (1) dX1_isSuch_19 (by decide) ?_
                refine q_zret (pc := 20) C dX1_isSuch_20 rfl (Or.inr rfl) ?_
                refine ⟨?_, rfl⟩
                rw [← c16_2]
                decide
        · refine r_iconst (pc := 19) C (1) dX1_isSuch_19 (by decide) ?_
          refine q_zret (pc := 20) C dX1_isSuch_20 rfl (Or.inr rfl) ?_
          refine ⟨?_, rfl⟩
          rw [← c16_1]
          decide
  · skip
    refine r_iload_n (pc := 0) C dX1_isSuch_0 rfl ?_
    refine r_istore_n (pc := 1) C dX1_isSuch_1 (by decide) rfl ?_
    refine r_iconst (pc := 2) C (0) dX1_isSuch_2 (by decide) ?_
    refine r_istore_n (pc := 3) C dX1_isSuch_3 (by decide) rfl ?_
    refine r_iload_n (pc := 4) C dX1_isSuch_4 rfl ?_
    refine r_bipush (pc := 5) C (6) dX1_isSuch_5 (by decide) ?_
    refine q_ge (pc := 7) C 0 6 33 rfl rfl (by omega) (by omega) dX1_isSuch_7 (by decide) (fun c7 => ?_) (fun c7 => ?_)
    · exact absurd c7 (by omega)
    · refine r_iload_n (pc := 10) C dX1_isSuch_10 rfl ?_
      refine r_if_lt (pc := 11) C 33 dX1_isSuch_11 (by decide) (fun c11 => ?_) (fun c11 => ?_)
      · exact absurd c11 (by decide)
      · refine r_iload_n (pc := 14) C dX1_isSuch_14 rfl ?_
        refine r_iload_n (pc := 15) C dX1_isSuch_15 rfl ?_
        refine r_icmp_ne (pc := 16) C 21 dX1_isSuch_16 (by decide) (fun c16_1 => ?_) (fun c16_1 => ?_)
        · refine r_gets (t := 0) (pc := 21) C (by decide) kgX1_15 dX1_isSuch_21 ?_
          refine r_iload_n (pc := 24) C dX1_isSuch_24 rfl ?_
          refine r_tald (t := 0) (pc := 25) C (by decide) dX1_isSuch_25 (vp_in_nI (n := 2) (by decide) (by decide)) ?_
          refine q_val (1) (by decide) ?_
          refine r_istore_n (pc := 26) C dX1_isSuch_26 (by decide) rfl ?_
          refine r_iinc (pc := 27) C (nI (0 + 1)) dX1_isSuch_27 rfl (nI_inc _) (by decide) rfl ?_
          refine r_goto (pc := 30) C 4 dX1_isSuch_30 (by decide) ?_
          refine r_iload_n (pc := 4) C dX1_isSuch_4 rfl ?_
          refine r_bipush (pc := 5) C (6) dX1_isSuch_5 (by decide) ?_
          refine q_ge (pc := 7) C (0 + 1) 6 33 rfl rfl (by omega) (by omega) dX1_isSuch_7 (by decide) (fun c7 => ?_) (fun c7 => ?_)
          · exact absurd c7 (by omega)
          · refine r_iload_n (pc := 10) C dX1_isSuch_10 rfl ?_
            refine r_if_lt (pc := 11) C 33 dX1_isSuch_11 (by decide) (fun c11 => ?_) (fun c11 => ?_)
            · exact absurd c11 (by decide)
            · refine r_iload_n (pc := 14) C dX1_isSuch_14 rfl ?_
              refine r_iload_n (pc := 15) C dX1_isSuch_15 rfl ?_
              refine r_icmp_ne (pc := 16) C 21 dX1_isSuch_16 (by decide) (fun c16_2 => ?_) (fun c16_2 => ?_)
              · refine r_gets (t := 0) (pc := 21) C (by decide) kgX1_15 dX1_isSuch_21 ?_
                refine r_iload_n (pc := 24) C dX1_isSuch_24 rfl ?_
                refine r_tald (t := 0) (pc := 25) C (by decide) dX1_isSuch_25 (vp_in_nI (n := 1) (by decide) (by decide)) ?_
                refine q_val (0) (by decide) ?_
                refine r_istore_n (pc := 26) C dX1_isSuch_26 (by decide) rfl ?_
                refine r_iinc (pc := 27) C (nI (0 + 1 + 1)) dX1_isSuch_27 rfl (nI_inc _) (by decide) rfl ?_
                refine r_goto (pc := 30) C 4 dX1_isSuch_30 (by decide) ?_
                refine r_iload_n (pc := 4) C dX1_isSuch_4 rfl ?_
                refine r_bipush (pc := 5) C (6) dX1_isSuch_5 (by decide) ?_
                refine q_ge (pc := 7) C (0 + 1 + 1) 6 33 rfl rfl (by omega) (by omega) dX1_isSuch_7 (by decide) (fun c7 => ?_) (fun c7 => ?_)
                · exact absurd c7 (by omega)
                · refine r_iload_n (pc := 10) C dX1_isSuch_10 rfl ?_
                  refine r_if_lt (pc := 11) C 33 dX1_isSuch_11 (by decide) (fun c11 => ?_) (fun c11 => ?_)
                  · exact absurd c11 (by decide)
                  · refine r_iload_n (pc := 14) C dX1_isSuch_14 rfl ?_
                    refine r_iload_n (pc := 15) C dX1_isSuch_15 rfl ?_
                    refine r_icmp_ne (pc := 16) C 21 dX1_isSuch_16 (by decide) (fun c16_3 => ?_) (fun c16_3 => ?_)
                    · refine r_gets (t := 0) (pc := 21) C (by decide) kgX1_15 dX1_isSuch_21 ?_
                      refine r_iload_n (pc := 24) C dX1_isSuch_24 rfl ?_
                      refine r_tald (t := 0) (pc := 25) C (by decide) dX1_isSuch_25 (vp_in_nI (n := 0) (by decide) (by decide)) ?_
                      refine q_val (-1) (by decide) ?_
                      refine r_istore_n (pc := 26) C dX1_isSuch_26 (by decide) rfl ?_
                      refine r_iinc (pc := 27) C (nI (0 + 1 + 1 + 1)) dX1_isSuch_27 rfl (nI_inc _) (by decide) rfl ?_
                      refine r_goto (pc := 30) C 4 dX1_isSuch_30 (by decide) ?_
                      refine r_iload_n (pc := 4) C dX1_isSuch_4 rfl ?_
                      refine r_bipush (pc := 5) C (6) dX1_isSuch_5 (by decide) ?_
                      refine q_ge (pc := 7) C (0 + 1 + 1 + 1) 6 33 rfl rfl (by omega) (by omega) dX1_isSuch_7 (by decide) (fun c7 => ?_) (fun c7 => ?_)
                      · exact absurd c7 (by omega)
                      · refine r_iload_n (pc := 10) C dX1_isSuch_10 rfl ?_
                        refine r_if_lt (pc := 11) C 33 dX1_isSuch_11 (by decide) (fun c11 => ?_) (fun c11 => ?_)
                        · refine r_iconst (pc := 33) C (0) dX1_isSuch_33 (by decide) ?_
                          refine q_zret (pc := 34) C dX1_isSuch_34 rfl (Or.inl rfl) ?_
                          refine ⟨?_, rfl⟩
                          unfold isKd
                          have z0 := c16_3
                          simp [b1, Ne.symm c16_1, c16_1, Ne.symm c16_2, c16_2, Ne.symm c16_3, c16_3]
                        · exact absurd c11 (by decide)
                    · refine r_iconst (pc := 19) C (1) dX1_isSuch_19 (by decide) ?_
                      refine q_zret (pc := 20) C dX1_isSuch_20 rfl (Or.inr rfl) ?_
                      refine ⟨?_, rfl⟩
                      rw [← c16_3]
                      decide
              · refine r_iconst (pc := 19) C (1) dX1_isSuch_19 (by decide) ?_
                refine q_zret (pc := 20) C dX1_isSuch_20 rfl (Or.inr rfl) ?_
                refine ⟨?_, rfl⟩
                rw [← c16_2]
                decide
        · refine r_iconst (pc := 19) C (1) dX1_isSuch_19 (by decide) ?_
          refine q_zret (pc := 20) C dX1_isSuch_20 rfl (Or.inr rfl) ?_
          refine ⟨?_, rfl⟩
          rw [← c16_1]
          decide
  · skip
    refine r_iload_n (pc := 0) C dX1_isSuch_0 rfl ?_
    refine r_istore_n (pc := 1) C dX1_isSuch_1 (by decide) rfl ?_
    refine r_iconst (pc := 2) C (0) dX1_isSuch_2 (by decide) ?_
    refine r_istore_n (pc := 3) C dX1_isSuch_3 (by decide) rfl ?_
    refine r_iload_n (pc := 4) C dX1_isSuch_4 rfl ?_
    refine r_bipush (pc := 5) C (6) dX1_isSuch_5 (by decide) ?_
    refine q_ge (pc := 7) C 0 6 33 rfl rfl (by omega) (by omega) dX1_isSuch_7 (by decide) (fun c7 => ?_) (fun c7 => ?_)
    · exact absurd c7 (by omega)
    · refine r_iload_n (pc := 10) C dX1_isSuch_10 rfl ?_
      refine r_if_lt (pc := 11) C 33 dX1_isSuch_11 (by decide) (fun c11 => ?_) (fun c11 => ?_)
      · exact absurd c11 (by decide)
      · refine r_iload_n (pc := 14) C dX1_isSuch_14 rfl ?_
        refine r_iload_n (pc := 15) C dX1_isSuch_15 rfl ?_
        refine r_icmp_ne (pc := 16) C 21 dX1_isSuch_16 (by decide) (fun c16_1 => ?_) (fun c16_1 => ?_)
        · refine r_gets (t := 0) (pc := 21) C (by decide) kgX1_15 dX1_isSuch_21 ?_
          refine r_iload_n (pc := 24) C dX1_isSuch_24 rfl ?_
          refine r_tald (t := 0) (pc := 25) C (by decide) dX1_isSuch_25 (vp_in_nI (n := 3) (by decide) (by decide)) ?_
          refine q_val (1) (by decide) ?_
          refine r_istore_n (pc := 26) C dX1_isSuch_26 (by decide) rfl ?_
          refine r_iinc (pc := 27) C (nI (0 + 1)) dX1_isSuch_27 rfl (nI_inc _) (by decide) rfl ?_
          refine r_goto (pc := 30) C 4 dX1_isSuch_30 (by decide) ?_
          refine r_iload_n (pc := 4) C dX1_isSuch_4 rfl ?_
          refine r_bipush (pc := 5) C (6) dX1_isSuch_5 (by decide) ?_
          refine q_ge (pc := 7) C (0 + 1) 6 33 rfl rfl (by omega) (by omega) dX1_isSuch_7 (by decide) (fun c7 => ?_) (fun c7 => ?_)
          · exact absurd c7 (by omega)
          · refine r_iload_n (pc := 10) C dX1_isSuch_10 rfl ?_
            refine r_if_lt (pc := 11) C 33 dX1_isSuch_11 (by decide) (fun c11 => ?_) (fun c11 => ?_)
            · exact absurd c11 (by decide)
            · refine r_iload_n (pc := 14) C dX1_isSuch_14 rfl ?_
              refine r_iload_n (pc := 15) C dX1_isSuch_15 rfl ?_
              refine r_icmp_ne (pc := 16) C 21 dX1_isSuch_16 (by decide) (fun c16_2 => ?_) (fun c16_2 => ?_)
              · refine r_gets (t := 0) (pc := 21) C (by decide) kgX1_15 dX1_isSuch_21 ?_
                refine r_iload_n (pc := 24) C dX1_isSuch_24 rfl ?_
                refine r_tald (t := 0) (pc := 25) C (by decide) dX1_isSuch_25 (vp_in_nI (n := 1) (by decide) (by decide)) ?_
                refine q_val (0) (by decide) ?_
                refine r_istore_n (pc := 26) C dX1_isSuch_26 (by decide) rfl ?_
                refine r_iinc (pc := 27) C (nI (0 + 1 + 1)) dX1_isSuch_27 rfl (nI_inc _) (by decide) rfl ?_
                refine r_goto (pc := 30) C 4 dX1_isSuch_30 (by decide) ?_
                refine r_iload_n (pc := 4) C dX1_isSuch_4 rfl ?_
                refine r_bipush (pc := 5) C (6) dX1_isSuch_5 (by decide) ?_
                refine q_ge (pc := 7) C (0 + 1 + 1) 6 33 rfl rfl (by omega) (by omega) dX1_isSuch_7 (by decide) (fun c7 => ?_) (fun c7 => ?_)
                · exact absurd c7 (by omega)
                · refine r_iload_n (pc := 10) C dX1_isSuch_10 rfl ?_
                  refine r_if_lt (pc := 11) C 33 dX1_isSuch_11 (by decide) (fun c11 => ?_) (fun c11 => ?_)
                  · exact absurd c11 (by decide)
                  · refine r_iload_n (pc := 14) C dX1_isSuch_14 rfl ?_
                    refine r_iload_n (pc := 15) C dX1_isSuch_15 rfl ?_
                    refine r_icmp_ne (pc := 16) C 21 dX1_isSuch_16 (by decide) (fun c16_3 => ?_) (fun c16_3 => ?_)
                    · refine r_gets (t := 0) (pc := 21) C (by decide) kgX1_15 dX1_isSuch_21 ?_
                      refine r_iload_n (pc := 24) C dX1_isSuch_24 rfl ?_
                      refine r_tald (t := 0) (pc := 25) C (by decide) dX1_isSuch_25 (vp_in_nI (n := 0) (by decide) (by decide)) ?_
                      refine q_val (-1) (by decide) ?_
                      refine r_istore_n (pc := 26) C dX1_isSuch_26 (by decide) rfl ?_
                      refine r_iinc (pc := 27) C (nI (0 + 1 + 1 + 1)) dX1_isSuch_27 rfl (nI_inc _) (by decide) rfl ?_
                      refine r_goto (pc := 30) C 4 dX1_isSuch_30 (by decide) ?_
                      refine r_iload_n (pc := 4) C dX1_isSuch_4 rfl ?_
                      refine r_bipush (pc := 5) C (6) dX1_isSuch_5 (by decide) ?_
                      refine q_ge (pc := 7) C (0 + 1 + 1 + 1) 6 33 rfl rfl (by omega) (by omega) dX1_isSuch_7 (by decide) (fun c7 => ?_) (fun c7 => ?_)
                      · exact absurd c7 (by omega)
                      · refine r_iload_n (pc := 10) C dX1_isSuch_10 rfl ?_
                        refine r_if_lt (pc := 11) C 33 dX1_isSuch_11 (by decide) (fun c11 => ?_) (fun c11 => ?_)
                        · refine r_iconst (pc := 33) C (0) dX1_isSuch_33 (by decide) ?_
                          refine q_zret (pc := 34) C dX1_isSuch_34 rfl (Or.inl rfl) ?_
                          refine ⟨?_, rfl⟩
                          unfold isKd
                          have z0 := c16_3
                          simp [b1, Ne.symm c16_1, c16_1, Ne.symm c16_2, c16_2, Ne.symm c16_3, c16_3]
                        · exact absurd c11 (by decide)
                    · refine r_iconst (pc := 19) C (1) dX1_isSuch_19 (by decide) ?_
                      refine q_zret (pc := 20) C dX1_isSuch_20 rfl (Or.inr rfl) ?_
                      refine ⟨?_, rfl⟩
                      rw [← c16_3]
                      decide
              · refine r_iconst (pc := 19) C (1) dX1_isSuch_19 (by decide) ?_
                refine q_zret (pc := 20) C dX1_isSuch_20 rfl (Or.inr rfl) ?_
                refine ⟨?_, rfl⟩
                rw [← c16_2]
                decide
        · refine r_iconst (pc := 19) C (1) dX1_isSuch_19 (by decide) ?_
          refine q_zret (pc := 20) C dX1_isSuch_20 rfl (Or.inr rfl) ?_
          refine ⟨?_, rfl⟩
          rw [← c16_1]
          decide
  · skip
    refine r_iload_n (pc := 0) C dX1_isSuch_0 rfl ?_
    refine r_istore_n (pc := 1) C dX1_isSuch_1 (by decide) rfl ?_
    refine r_iconst (pc := 2) C (0) dX1_isSuch_2 (by decide) ?_
    refine r_istore_n (pc := 3) C dX1_isSuch_3 (by decide) rfl ?_
    refine r_iload_n (pc := 4) C dX1_isSuch_4 rfl ?_
    refine r_bipush (pc := 5) C (6) dX1_isSuch_5 (by decide) ?_
    refine q_ge (pc := 7) C 0 6 33 rfl rfl (by omega) (by omega) dX1_isSuch_7 (by decide) (fun c7 => ?_) (fun c7 => ?_)
    · exact absurd c7 (by omega)
    · refine r_iload_n (pc := 10) C dX1_isSuch_10 rfl ?_
      refine r_if_lt (pc := 11) C 33 dX1_isSuch_11 (by decide) (fun c11 => ?_) (fun c11 => ?_)
      · exact absurd c11 (by decide)
      · refine r_iload_n (pc := 14) C dX1_isSuch_14 rfl ?_
        refine r_iload_n (pc := 15) C dX1_isSuch_15 rfl ?_
        refine r_icmp_ne (pc := 16) C 21 dX1_isSuch_16 (by decide) (fun c16_1 => ?_) (fun c16_1 => ?_)
        · refine r_gets (t := 0) (pc := 21) C (by decide) kgX1_15 dX1_isSuch_21 ?_
          refine r_iload_n (pc := 24) C dX1_isSuch_24 rfl ?_
          refine r_tald (t := 0) (pc := 25) C (by decide) dX1_isSuch_25 (vp_in_nI (n := 4) (by decide) (by decide)) ?_
          refine q_val (0) (by decide) ?_
          refine r_istore_n (pc := 26) C dX1_isSuch_26 (by decide) rfl ?_
          refine r_iinc (pc := 27) C (nI (0 + 1)) dX1_isSuch_27 rfl (nI_inc _) (by decide) rfl ?_
          refine r_goto (pc := 30) C 4 dX1_isSuch_30 (by decide) ?_
          refine r_iload_n (pc := 4) C dX1_isSuch_4 rfl ?_
          refine r_bipush (pc := 5) C (6) dX1_isSuch_5 (by decide) ?_
          refine q_ge (pc := 7) C (0 + 1) 6 33 rfl rfl (by omega) (by omega) dX1_isSuch_7 (by decide) (fun c7 => ?_) (fun c7 => ?_)
          · exact absurd c7 (by omega)
          · refine r_iload_n (pc := 10) C dX1_isSuch_10 rfl ?_
            refine r_if_lt (pc := 11) C 33 dX1_isSuch_11 (by decide) (fun c11 => ?_) (fun c11 => ?_)
            · exact absurd c11 (by decide)
            · refine r_iload_n (pc := 14) C dX1_isSuch_14 rfl ?_
              refine r_iload_n (pc := 15) C dX1_isSuch_15 rfl ?_
              refine r_icmp_ne (pc := 16) C 21 dX1_isSuch_16 (by decide) (fun c16_2 => ?_) (fun c16_2 => ?_)
              · refine r_gets (t := 0) (pc := 21) C (by decide) kgX1_15 dX1_isSuch_21 ?_
                refine r_iload_n (pc := 24) C dX1_isSuch_24 rfl ?_
                refine r_tald (t := 0) (pc := 25) C (by decide) dX1_isSuch_25 (vp_in_nI (n := 0) (by decide) (by decide)) ?_
                refine q_val (-1) (by decide) ?_
                refine r_istore_n (pc := 26) C dX1_isSuch_26 (by decide) rfl ?_
                refine r_iinc (pc := 27) C (nI (0 + 1 + 1)) dX1_isSuch_27 rfl (nI_inc _) (by decide) rfl ?_
                refine r_goto (pc := 30) C 4 dX1_isSuch_30 (by decide) ?_
                refine r_iload_n (pc := 4) C dX1_isSuch_4 rfl ?_
                refine r_bipush (pc := 5) C (6) dX1_isSuch_5 (by decide) ?_
                refine q_ge (pc := 7) C (0 + 1 + 1) 6 33 rfl rfl (by omega) (by omega) dX1_isSuch_7 (by decide) (fun c7 => ?_) (fun c7 => ?_)
                · exact absurd c7 (by omega)
                · refine r_iload_n (pc := 10) C dX1_isSuch_10 rfl ?_
                  refine r_if_lt (pc := 11) C 33 dX1_isSuch_11 (by decide) (fun c11 => ?_) (fun c11 => ?_)
                  · refine r_iconst (pc := 33) C (0) dX1_isSuch_33 (by decide) ?_
                    refine q_zret (pc := 34) C dX1_isSuch_34 rfl (Or.inl rfl) ?_
                    refine ⟨?_, rfl⟩
                    unfold isKd
                    have z0 := c16_2
                    simp [b1, Ne.symm c16_1, c16_1, Ne.symm c16_2, c16_2]
                  · exact absurd c11 (by decide)
              · refine r_iconst (pc := 19) C (1) dX1_isSuch_19 (by decide) ?_
                refine q_zret (pc := 20) C dX1_isSuch_20 rfl (Or.inr rfl) ?_
                refine ⟨?_, rfl⟩
                rw [← c16_2]
                decide
        · refine r_iconst (pc := 19) C (1) dX1_isSuch_19 (by decide) ?_
          refine q_zret (pc := 20) C dX1_isSuch_20 rfl (Or.inr rfl) ?_
          refine ⟨?_, rfl⟩
          rw [← c16_1]
          decide
  · skip
    refine r_iload_n (pc := 0) C dX1_isSuch_0 rfl ?_
    refine r_istore_n (pc := 1) C dX1_isSuch_1 (by decide) rfl ?_
    refine r_iconst (pc := 2) C (0) dX1_isSuch_2 (by decide) ?_
    refine r_istore_n (pc := 3) C dX1_isSuch_3 (by decide) rfl ?_
    refine r_iload_n (pc := 4) C dX1_isSuch_4 rfl ?_
    refine r_bipush (pc := 5) C (6) dX1_isSuch_5 (by decide) ?_
    refine q_ge (pc := 7) C 0 6 33 rfl rfl (by omega) (by omega) dX1_isSuch_7 (by decide) (fun c7 => ?_) (fun c7 => ?_)
    · exact absurd c7 (by omega)
    · refine r_iload_n (pc := 10) C dX1_isSuch_10 rfl ?_
      refine r_if_lt (pc := 11) C 33 dX1_isSuch_11 (by decide) (fun c11 => ?_) (fun c11 => ?_)
      · exact absurd c11 (by decide)
      · refine r_iload_n (pc := 14) C dX1_isSuch_14 rfl ?_
        refine r_iload_n (pc := 15) C dX1_isSuch_15 rfl ?_
        refine r_icmp_ne (pc := 16) C 21 dX1_isSuch_16 (by decide) (fun c16_1 => ?_) (fun c16_1 => ?_)
        · refine r_gets (t := 0) (pc := 21) C (by decide) kgX1_15 dX1_isSuch_21 ?_
          refine r_iload_n (pc := 24) C dX1_isSuch_24 rfl ?_
          refine r_tald (t := 0) (pc := 25) C (by decide) dX1_isSuch_25 (vp_in_nI (n := 5) (by decide) (by decide)) ?_
          refine q_val (4) (by decide) ?_
          refine r_istore_n (pc := 26) C dX1_isSuch_26 (by decide) rfl ?_
          refine r_iinc (pc := 27) C (nI (0 + 1)) dX1_isSuch_27 rfl (nI_inc _) (by decide) rfl ?_
          refine r_goto (pc := 30) C 4 dX1_isSuch_30 (by decide) ?_
          refine r_iload_n (pc := 4) C dX1_isSuch_4 rfl ?_
          refine r_bipush (pc := 5) C (6) dX1_isSuch_5 (by decide) ?_
          refine q_ge (pc := 7) C (0 + 1) 6 33 rfl rfl (by omega) (by omega) dX1_isSuch_7 (by decide) (fun c7 => ?_) (fun c7 => ?_)
          · exact absurd c7 (by omega)
          · refine r_iload_n (pc := 10) C dX1_isSuch_10 rfl ?_
            refine r_if_lt (pc := 11) C 33 dX1_isSuch_11 (by decide) (fun c11 => ?_) (fun c11 => ?_)
            · exact absurd c11 (by decide)
            · refine r_iload_n (pc := 14) C dX1_isSuch_14 rfl ?_
              refine r_iload_n (pc := 15) C dX1_isSuch_15 rfl ?_
              refine r_icmp_ne (pc := 16) C 21 dX1_isSuch_16 (by decide) (fun c16_2 => ?_) (fun c16_2 => ?_)
              · refine r_gets (t := 0) (pc := 21) C (by decide) kgX1_15 dX1_isSuch_21 ?_
                refine r_iload_n (pc := 24) C dX1_isSuch_24 rfl ?_
                refine r_tald (t := 0) (pc := 25) C (by decide) dX1_isSuch_25 (vp_in_nI (n := 4) (by decide) (by decide)) ?_
                refine q_val (0) (by decide) ?_
                refine r_istore_n (pc := 26) C dX1_isSuch_26 (by decide) rfl ?_
                refine r_iinc (pc := 27) C (nI (0 + 1 + 1)) dX1_isSuch_27 rfl (nI_inc _) (by decide) rfl ?_
                refine r_goto (pc := 30) C 4 dX1_isSuch_30 (by decide) ?_
                refine r_iload_n (pc := 4) C dX1_isSuch_4 rfl ?_
                refine r_bipush (pc := 5) C (6) dX1_isSuch_5 (by decide) ?_
                refine q_ge (pc := 7) C (0 + 1 + 1) 6 33 rfl rfl (by omega) (by omega) dX1_isSuch_7 (by decide) (fun c7 => ?_) (fun c7 => ?_)
                · exact absurd c7 (by omega)
                · refine r_iload_n (pc := 10) C dX1_isSuch_10 rfl ?_
                  refine r_if_lt (pc := 11) C 33 dX1_isSuch_11 (by decide) (fun c11 => ?_) (fun c11 => ?_)
                  · exact absurd c11 (by decide)
                  · refine r_iload_n (pc := 14) C dX1_isSuch_14 rfl ?_
                    refine r_iload_n (pc := 15) C dX1_isSuch_15 rfl ?_
                    refine r_icmp_ne (pc := 16) C 21 dX1_isSuch_16 (by decide) (fun c16_3 => ?_) (fun c16_3 => ?_)
                    · refine r_gets (t := 0) (pc := 21) C (by decide) kgX1_15 dX1_isSuch_21 ?_
                      refine r_iload_n (pc := 24) C dX1_isSuch_24 rfl ?_
                      refine r_tald (t := 0) (pc := 25) C (by decide) dX1_isSuch_25 (vp_in_nI (n := 0) (by decide) (by decide)) ?_
                      refine q_val (-1) (by decide) ?_
                      refine r_istore_n (pc := 26) C dX1_isSuch_26 (by decide) rfl ?_
                      refine r_iinc (pc := 27) C (nI (0 + 1 + 1 + 1)) dX1_isSuch_27 rfl (nI_inc _) (by decide) rfl ?_
                      refine r_goto (pc := 30) C 4 dX1_isSuch_30 (by decide) ?_
                      refine r_iload_n (pc := 4) C dX1_isSuch_4 rfl ?_
                      refine r_bipush (pc := 5) C (6) dX1_isSuch_5 (by decide) ?_
                      refine q_ge (pc := 7) C (0 + 1 + 1 + 1) 6 33 rfl rfl (by omega) (by omega) dX1_isSuch_7 (by decide) (fun c7 => ?_) (fun c7 => ?_)
                      · exact absurd c7 (by omega)
                      · refine r_iload_n (pc := 10) C dX1_isSuch_10 rfl ?_
                        refine r_if_lt (pc := 11) C 33 dX1_isSuch_11 (by decide) (fun c11 => ?_) (fun c11 => ?_)
                        · refine r_iconst (pc := 33) C (0) dX1_isSuch_33 (by decide) ?_
                          refine q_zret (pc := 34) C dX1_isSuch_34 rfl (Or.inl rfl) ?_
                          refine ⟨?_, rfl⟩
                          unfold isKd
                          have z0 := c16_3
                          simp [b1, Ne.symm c16_1, c16_1, Ne.symm c16_2, c16_2, Ne.symm c16_3, c16_3]
                        · exact absurd c11 (by decide)
                    · refine r_iconst (pc := 19) C (1) dX1_isSuch_19 (by decide) ?_
                      refine q_zret (pc := 20) C dX1_isSuch_20 rfl (Or.inr rfl) ?_
                      refine ⟨?_, rfl⟩
                      rw [← c16_3]
                      decide
              · refine r_iconst (pc := 19) C (1) dX1_isSuch_19 (by decide) ?_
                refine q_zret (pc := 20) C dX1_isSuch_20 rfl (Or.inr rfl) ?_
                refine ⟨?_, rfl⟩
                rw [← c16_2]
                decide
        · refine r_iconst (pc := 19) C (1) dX1_isSuch_19 (by decide) ?_
          refine q_zret (pc := 20) C dX1_isSuch_20 rfl (Or.inr rfl) ?_
          refine ⟨?_, rfl⟩
          rw [← c16_1]
          decide
set_option maxRecDepth 100000 in
set_option maxHeartbeats 4000000 in
theorem c_near1_1 {G : GG} {kn : Nat} {f : MM}  : CI G mX1_nearest 1 kn [.ref (G.2.2.2 1), .int 1] f (11) f := by
  refine Ct.of [some (.ref (G.2.2.2 1)), some (.int 1), none, none] rfl (by decide +kernel) rfl (Nat.le_of_ble_eq_true rfl) rfl ?_
  intro X C
  refine r_iload_n (pc := 0) C dX1_nearest_0 rfl ?_
  refine r_istore_n (pc := 1) C dX1_nearest_1 (by decide) rfl ?_
  refine r_iconst (pc := 2) C (0) dX1_nearest_2 (by decide) ?_
  refine r_istore_n (pc := 3) C dX1_nearest_3 (by decide) rfl ?_
  refine r_iload_n (pc := 4) C dX1_nearest_4 rfl ?_
  refine r_bipush (pc := 5) C (6) dX1_nearest_5 (by decide) ?_
  refine q_ge (pc := 7) C 0 6 32 rfl rfl (by omega) (by omega) dX1_nearest_7 (by decide) (fun c7 => ?_) (fun c7 => ?_)
  · exact absurd c7 (by omega)
  · refine r_iload_n (pc := 10) C dX1_nearest_10 rfl ?_
    refine r_if_le (pc := 11) C 32 dX1_nearest_11 (by decide) (fun c11 => ?_) (fun c11 => ?_)
    · exact absurd c11 (by decide)
    · refine r_aload_n (pc := 14) C dX1_nearest_14 rfl ?_
      refine r_iload_n (pc := 15) C dX1_nearest_15 rfl ?_
      refine r_tald (t := 1) (pc := 16) C (by decide) dX1_nearest_16 (vp_in_nI (n := 1) (by decide) (by decide)) ?_
      refine q_val (11) (by decide) ?_
      refine r_if_ne (pc := 17) C 32 dX1_nearest_17 (by decide) (fun c17 => ?_) (fun c17 => ?_)
      · refine r_aload_n (pc := 32) C dX1_nearest_32 rfl ?_
        refine r_iload_n (pc := 33) C dX1_nearest_33 rfl ?_
        refine r_tald (t := 1) (pc := 34) C (by decide) dX1_nearest_34 (vp_in_nI (n := 1) (by decide) (by decide)) ?_
        refine q_val (11) (by decide) ?_
        refine q_iret (pc := 35) C dX1_nearest_35 rfl ?_
        exact ⟨rfl, rfl⟩
      · exact absurd c17 (by decide)
set_option maxRecDepth 100000 in
set_option maxHeartbeats 4000000 in
theorem c_near1_2 {G : GG} {kn : Nat} {f : MM}  : CI G mX1_nearest 1 kn [.ref (G.2.2.2 1), .int 2] f (12) f := by
  refine Ct.of [some (.ref (G.2.2.2 1)), some (.int 2), none, none] rfl (by decide +kernel) rfl (Nat.le_of_ble_eq_true rfl) rfl ?_
  intro X C
  refine r_iload_n (pc := 0) C dX1_nearest_0 rfl ?_
  refine r_istore_n (pc := 1) C dX1_nearest_1 (by decide) rfl ?_
  refine r_iconst (pc := 2) C (0) dX1_nearest_2 (by decide) ?_
  refine r_istore_n (pc := 3) C dX1_nearest_3 (by decide) rfl ?_
  refine r_iload_n (pc := 4) C dX1_nearest_4 rfl ?_
  refine r_bipush (pc := 5) C (6) dX1_nearest_5 (by decide) ?_
  refine q_ge (pc := 7) C 0 6 32 rfl rfl (by omega) (by omega) dX1_nearest_7 (by decide) (fun c7 => ?_) (fun c7 => ?_)
  · exact absurd c7 (by omega)
  · refine r_iload_n (pc := 10) C dX1_nearest_10 rfl ?_
    refine r_if_le (pc := 11) C 32 dX1_nearest_11 (by decide) (fun c11 => ?_) (fun c11 => ?_)
    · exact absurd c11 (by decide)
    · refine r_aload_n (pc := 14) C dX1_nearest_14 rfl ?_
      refine r_iload_n (pc := 15) C dX1_nearest_15 rfl ?_
      refine r_tald (t := 1) (pc := 16) C (by decide) dX1_nearest_16 (vp_in_nI (n := 2) (by decide) (by decide)) ?_
      refine q_val (12) (by decide) ?_
      refine r_if_ne (pc := 17) C 32 dX1_nearest_17 (by decide) (fun c17 => ?_) (fun c17 => ?_)
      · refine r_aload_n (pc := 32) C dX1_nearest_32 rfl ?_
        refine r_iload_n (pc := 33) C dX1_nearest_33 rfl ?_
        refine r_tald (t := 1) (pc := 34) C (by decide) dX1_nearest_34 (vp_in_nI (n := 2) (by decide) (by decide)) ?_
        refine q_val (12) (by decide) ?_
        refine q_iret (pc := 35) C dX1_nearest_35 rfl ?_
        exact ⟨rfl, rfl⟩
      · exact absurd c17 (by decide)
set_option maxRecDepth 100000 in
set_option maxHeartbeats 4000000 in
theorem c_near1_3 {G : GG} {kn : Nat} {f : MM}  : CI G mX1_nearest 1 kn [.ref (G.2.2.2 1), .int 3] f (11) f := by
  refine Ct.of [some (.ref (G.2.2.2 1)), some (.int 3), none, none] rfl (by decide +kernel) rfl (Nat.le_of_ble_eq_true rfl) rfl ?_
  intro X C
  refine r_iload_n (pc := 0) C dX1_nearest_0 rfl ?_
  refine r_istore_n (pc := 1) C dX1_nearest_1 (by decide) rfl ?_
  refine r_iconst (pc := 2) C (0) dX1_nearest_2 (by decide) ?_
  refine r_istore_n (pc := 3) C dX1_nearest_3 (by decide) rfl ?_
  refine r_iload_n (pc := 4) C dX1_nearest_4 rfl ?_
  refine r_bipush (pc := 5) C (6) dX1_nearest_5 (by decide) ?_
  refine q_ge (pc := 7) C 0 6 32 rfl rfl (by omega) (by omega) dX1_nearest_7 (by decide) (fun c7 => ?_) (fun c7 => ?_)
  · exact absurd c7 (by omega)
  · refine r_iload_n (pc := 10) C dX1_nearest_10 rfl ?_
    refine r_if_le (pc := 11) C 32 dX1_nearest_11 (by decide) (fun c11 => ?_) (fun c11 => ?_)
    · exact absurd c11 (by decide)
    · refine r_aload_n (pc := 14) C dX1_nearest_14 rfl ?_
      refine r_iload_n (pc := 15) C dX1_nearest_15 rfl ?_
      refine r_tald (t := 1) (pc := 16) C (by decide) dX1_nearest_16 (vp_in_nI (n := 3) (by decide) (by decide)) ?_
      refine q_val (0) (by decide) ?_
      refine r_if_ne (pc := 17) C 32 dX1_nearest_17 (by decide) (fun c17 => ?_) (fun c17 => ?_)
      · exact absurd rfl c17
      · refine r_gets (t := 0) (pc := 20) C (by decide) kgX1_15 dX1_nearest_20 ?_
        refine r_iload_n (pc := 23) C dX1_nearest_23 rfl ?_
        refine r_tald (t := 0) (pc := 24) C (by decide) dX1_nearest_24 (vp_in_nI (n := 3) (by decide) (by decide)) ?_
        refine q_val (1) (by decide) ?_
        refine r_istore_n (pc := 25) C dX1_nearest_25 (by decide) rfl ?_
        refine r_iinc (pc := 26) C (nI (0 + 1)) dX1_nearest_26 rfl (nI_inc _) (by decide) rfl ?_
        refine r_goto (pc := 29) C 4 dX1_nearest_29 (by decide) ?_
        refine r_iload_n (pc := 4) C dX1_nearest_4 rfl ?_
        refine r_bipush (pc := 5) C (6) dX1_nearest_5 (by decide) ?_
        refine q_ge (pc := 7) C (0 + 1) 6 32 rfl rfl (by omega) (by omega) dX1_nearest_7 (by decide) (fun c7 => ?_) (fun c7 => ?_)
        · exact absurd c7 (by omega)
        · refine r_iload_n (pc := 10) C dX1_nearest_10 rfl ?_
          refine r_if_le (pc := 11) C 32 dX1_nearest_11 (by decide) (fun c11 => ?_) (fun c11 => ?_)
          · exact absurd c11 (by decide)
          · refine r_aload_n (pc := 14) C dX1_nearest_14 rfl ?_
            refine r_iload_n (pc := 15) C dX1_nearest_15 rfl ?_
            refine r_tald (t := 1) (pc := 16) C (by decide) dX1_nearest_16 (vp_in_nI (n := 1) (by decide) (by decide)) ?_
            refine q_val (11) (by decide) ?_
            refine r_if_ne (pc := 17) C 32 dX1_nearest_17 (by decide) (fun c17 => ?_) (fun c17 => ?_)
            · refine r_aload_n (pc := 32) C dX1_nearest_32 rfl ?_
              refine r_iload_n (pc := 33) C dX1_nearest_33 rfl ?_
              refine r_tald (t := 1) (pc := 34) C (by decide) dX1_nearest_34 (vp_in_nI (n := 1) (by decide) (by decide)) ?_
              refine q_val (11) (by decide) ?_
              refine q_iret (pc := 35) C dX1_nearest_35 rfl ?_
              exact ⟨rfl, rfl⟩
            · exact absurd c17 (by decide)
set_option maxRecDepth 100000 in
set_option maxHeartbeats 4000000 in
theorem c_near1_4 {G : GG} {kn : Nat} {f : MM}  : CI G mX1_nearest 1 kn [.ref (G.2.2.2 1), .int 4] f (13) f := by
  refine Ct.of [some (.ref (G.2.2.2 1)), some (.int 4), none, none] rfl (by decide +kernel) rfl (Nat.le_of_ble_eq_true rfl) rfl ?_
  intro X C
  refine r_iload_n (pc := 0) C dX1_nearest_0 rfl ?_
  refine r_istore_n (pc := 1) C dX1_nearest_1 (by decide) rfl ?_
  refine r_iconst (pc := 2) C (0) dX1_nearest_2 (by decide) ?_
  refine r_istore_n (pc := 3) C dX1_nearest_3 (by decide) rfl ?_
  refine r_iload_n (pc := 4) C dX1_nearest_4 rfl ?_
  refine r_bipush (pc := 5) C (6) dX1_nearest_5 (by decide) ?_
  refine q_ge (pc := 7) C 0 6 32 rfl rfl (by omega) (by omega) dX1_nearest_7 (by decide) (fun c7 => ?_) (fun c7 => ?_)
  · exact absurd c7 (by omega)
  · refine r_iload_n (pc := 10) C dX1_nearest_10 rfl ?_
    refine r_if_le (pc := 11) C 32 dX1_nearest_11 (by decide) (fun c11 => ?_) (fun c11 => ?_)
    · exact absurd c11 (by decide)
    · refine r_aload_n (pc := 14) C dX1_nearest_14 rfl ?_
      refine r_iload_n (pc := 15) C dX1_nearest_15 rfl ?_
      refine r_tald (t := 1) (pc := 16) C (by decide) dX1_nearest_16 (vp_in_nI (n := 4) (by decide) (by decide)) ?_
      refine q_val (13) (by decide) ?_
      refine r_if_ne (pc := 17) C 32 dX1_nearest_17 (by decide) (fun c17 => ?_) (fun c17 => ?_)
      · refine r_aload_n (pc := 32) C dX1_nearest_32 rfl ?_
        refine r_iload_n (pc := 33) C dX1_nearest_33 rfl ?_
        refine r_tald (t := 1) (pc := 34) C (by decide) dX1_nearest_34 (vp_in_nI (n := 4) (by decide) (by decide)) ?_
        refine q_val (13) (by decide) ?_
        refine q_iret (pc := 35) C dX1_nearest_35 rfl ?_
        exact ⟨rfl, rfl⟩
      · exact absurd c17 (by decide)
set_option maxRecDepth 100000 in
set_option maxHeartbeats 4000000 in
theorem c_near1_5 {G : GG} {kn : Nat} {f : MM}  : CI G mX1_nearest 1 kn [.ref (G.2.2.2 1), .int 5] f (14) f := by
  refine Ct.of [some (.ref (G.2.2.2 1)), some (.int 5), none, none] rfl (by decide +kernel) rfl (Nat.le_of_ble_eq_true rfl) rfl ?_
  intro X C
  refine r_iload_n (pc := 0) C dX1_nearest_0 rfl ?_
  refine r_istore_n (pc := 1) C dX1_nearest_1 (by decide) rfl ?_
  refine r_iconst (pc := 2) C (0) dX1_nearest_2 (by decide) ?_
  refine r_istore_n (pc := 3) C dX1_nearest_3 (by decide) rfl ?_
  refine r_iload_n (pc := 4) C dX1_nearest_4 rfl ?_
  refine r_bipush (pc := 5) C (6) dX1_nearest_5 (by decide) ?_
  refine q_ge (pc := 7) C 0 6 32 rfl rfl (by omega) (by omega) dX1_nearest_7 (by decide) (fun c7 => ?_) (fun c7 => ?_)
  · exact absurd c7 (by omega)
  · refine r_iload_n (pc := 10) C dX1_nearest_10 rfl ?_
    refine r_if_le (pc := 11) C 32 dX1_nearest_11 (by decide) (fun c11 => ?_) (fun c11 => ?_)
    · exact absurd c11 (by decide)
    · refine r_aload_n (pc := 14) C dX1_nearest_14 rfl ?_
      refine r_iload_n (pc := 15) C dX1_nearest_15 rfl ?_
      refine r_tald (t := 1) (pc := 16) C (by decide) dX1_nearest_16 (vp_in_nI (n := 5) (by decide) (by decide)) ?_
      refine q_val (14) (by decide) ?_
      refine r_if_ne (pc := 17) C 32 dX1_nearest_17 (by decide) (fun c17 => ?_) (fun c17 => ?_)
      · refine r_aload_n (pc := 32) C dX1_nearest_32 rfl ?_
        refine r_iload_n (pc := 33) C dX1_nearest_33 rfl ?_
        refine r_tald (t := 1) (pc := 34) C (by decide) dX1_nearest_34 (vp_in_nI (n := 5) (by decide) (by decide)) ?_
        refine q_val (14) (by decide) ?_
        refine q_iret (pc := 35) C dX1_nearest_35 rfl ?_
        exact ⟨rfl, rfl⟩
      · exact absurd c17 (by decide)
set_option maxRecDepth 100000 in
set_option maxHeartbeats 4000000 in
theorem c_near2_1 {G : GG} {kn : Nat} {f : MM}  : CI G mX1_nearest 1 kn [.ref (G.2.2.2 2), .int 1] f (21) f := by
  refine Ct.of [some (.ref (G.2.2.2 2)), some (.int 1), none, none] rfl (by decide +kernel) rfl (Nat.le_of_ble_eq_true rfl) rfl ?_
  intro X C
  refine r_iload_n (pc := 0) C dX1_nearest_0 rfl ?_
  refine r_istore_n (pc := 1) C dX1_nearest_1 (by decide) rfl ?_
  refine r_iconst (pc := 2) C (0) dX1_nearest_2 (by decide) ?_
  refine r_istore_n (pc := 3) C dX1_nearest_3 (by decide) rfl ?_
  refine r_iload_n (pc := 4) C dX1_nearest_4 rfl ?_
  refine r_bipush (pc := 5) C (6) dX1_nearest_5 (by decide) ?_
  refine q_ge (pc := 7) C 0 6 32 rfl rfl (by omega) (by omega) dX1_nearest_7 (by decide) (fun c7 => ?_) (fun c7 => ?_)
  · exact absurd c7 (by omega)
  · refine r_iload_n (pc := 10) C dX1_nearest_10 rfl ?_
    refine r_if_le (pc := 11) C 32 dX1_nearest_11 (by decide) (fun c11 => ?_) (fun c11 => ?_)
    · exact absurd c11 (by decide)
    · refine r_aload_n (pc := 14) C dX1_nearest_14 rfl ?_
      refine r_iload_n (pc := 15) C dX1_nearest_15 rfl ?_
      refine r_tald (t := 2) (pc := 16) C (by decide) dX1_nearest_16 (vp_in_nI (n := 1) (by decide) (by decide)) ?_
      refine q_val (21) (by decide) ?_
      refine r_if_ne (pc := 17) C 32 dX1_nearest_17 (by decide) (fun c17 => ?_) (fun c17 => ?_)
      · refine r_aload_n (pc := 32) C dX1_nearest_32 rfl ?_
        refine r_iload_n (pc := 33) C dX1_nearest_33 rfl ?_
        refine r_tald (t := 2) (pc := 34) C (by decide) dX1_nearest_34 (vp_in_nI (n := 1) (by decide) (by decide)) ?_
        refine q_val (21) (by decide) ?_
        refine q_iret (pc := 35) C dX1_nearest_35 rfl ?_
        exact ⟨rfl, rfl⟩
      · exact absurd c17 (by decide)
set_option maxRecDepth 100000 in
set_option maxHeartbeats 4000000 in
theorem c_near2_2 {G : GG} {kn : Nat} {f : MM}  : CI G mX1_nearest 1 kn [.ref (G.2.2.2 2), .int 2] f (24) f := by
  refine Ct.of [some (.ref (G.2.2.2 2)), some (.int 2), none, none] rfl (by decide +kernel) rfl (Nat.le_of_ble_eq_true rfl) rfl ?_
  intro X C
  refine r_iload_n (pc := 0) C dX1_nearest_0 rfl ?_
  refine r_istore_n (pc := 1) C dX1_nearest_1 (by decide) rfl ?_
  refine r_iconst (pc := 2) C (0) dX1_nearest_2 (by decide) ?_
  refine r_istore_n (pc := 3) C dX1_nearest_3 (by decide) rfl ?_
  refine r_iload_n (pc := 4) C dX1_nearest_4 rfl ?_
  refine r_bipush (pc := 5) C (6) dX1_nearest_5 (by decide) ?_
  refine q_ge (pc := 7) C 0 6 32 rfl rfl (by omega) (by omega) dX1_nearest_7 (by decide) (fun c7 => ?_) (fun c7 => ?_)
  · exact absurd c7 (by omega)
  · refine r_iload_n (pc := 10) C dX1_nearest_10 rfl ?_
    refine r_if_le (pc := 11) C 32 dX1_nearest_11 (by decide) (fun c11 => ?_) (fun c11 => ?_)
    · exact absurd c11 (by decide)
    · refine r_aload_n (pc := 14) C dX1_nearest_14 rfl ?_
      refine r_iload_n (pc := 15) C dX1_nearest_15 rfl ?_
      refine r_tald (t := 2) (pc := 16) C (by decide) dX1_nearest_16 (vp_in_nI (n := 2) (by decide) (by decide)) ?_
      refine q_val (24) (by decide) ?_
      refine r_if_ne (pc := 17) C 32 dX1_nearest_17 (by decide) (fun c17 => ?_) (fun c17 => ?_)
      · refine r_aload_n (pc := 32) C dX1_nearest_32 rfl ?_
        refine r_iload_n (pc := 33) C dX1_nearest_33 rfl ?_
        refine r_tald (t := 2) (pc := 34) C (by decide) dX1_nearest_34 (vp_in_nI (n := 2) (by decide) (by decide)) ?_
        refine q_val (24) (by decide) ?_
        refine q_iret (pc := 35) C dX1_nearest_35 rfl ?_
        exact ⟨rfl, rfl⟩
      · exact absurd c17 (by decide)
set_option maxRecDepth 100000 in
set_option maxHeartbeats 4000000 in
theorem c_near2_3 {G : GG} {kn : Nat} {f : MM}  : CI G mX1_nearest 1 kn [.ref (G.2.2.2 2), .int 3] f (22) f := by
  refine Ct.of [some (.ref (G.2.2.2 2)), some (.int 3), none, none] rfl (by decide +kernel) rfl (Nat.le_of_ble_eq_true rfl) rfl ?_
  intro X C
  refine r_iload_n (pc := 0) C dX1_nearest_0 rfl ?_
  refine r_istore_n (pc := 1) C dX1_nearest_1 (by decide) rfl ?_
  refine r_iconst (pc := 2) C (0) dX1_nearest_2 (by decide) ?_
  refine r_istore_n (pc := 3) C dX1_nearest_3 (by decide) rfl ?_
  refine r_iload_n (pc := 4) C dX1_nearest_4 rfl ?_
  refine r_bipush (pc := 5) C (6) dX1_nearest_5 (by decide) ?_
  refine q_ge (pc := 7) C 0 6 32 rfl rfl (by omega) (by omega) dX1_nearest_7 (by decide) (fun c7 => ?_) (fun c7 => ?_)
  · exact absurd c7 (by omega)
  · refine r_iload_n (pc := 10) C dX1_nearest_10 rfl ?_
    refine r_if_le (pc := 11) C 32 dX1_nearest_11 (by decide) (fun c11 => ?_) (fun c11 => ?_)
    · exact absurd c11 (by decide)
    · refine r_aload_n (pc := 14) C dX1_nearest_14 rfl ?_
      refine r_iload_n (pc := 15) C dX1_nearest_15 rfl ?_
      refine r_tald (t := 2) (pc := 16) C (by decide) dX1_nearest_16 (vp_in_nI (n := 3) (by decide) (by decide)) ?_
      refine q_val (22) (by decide) ?_
      refine r_if_ne (pc := 17) C 32 dX1_nearest_17 (by decide) (fun c17 => ?_) (fun c17 => ?_)
      · refine r_aload_n (pc := 32) C dX1_nearest_32 rfl ?_
        refine r_iload_n (pc := 33) C dX1_nearest_33 rfl ?_
        refine r_tald (t := 2) (pc := 34) C (by decide) dX1_nearest_34 (vp_in_nI (n := 3) (by decide) (by decide)) ?_
        refine q_val (22) (by decide) ?_
        refine q_iret (pc := 35) C dX1_nearest_35 rfl ?_
        exact ⟨rfl, rfl⟩
      · exact absurd c17 (by decide)
set_option maxRecDepth 100000 in
set_option maxHeartbeats 4000000 in
theorem c_near2_4 {G : GG} {kn : Nat} {f : MM}  : CI G mX1_nearest 1 kn [.ref (G.2.2.2 2), .int 4] f (23) f := by
  refine Ct.of [some (.ref (G.2.2.2 2)), some (.int 4), none, none] rfl (by decide +kernel) rfl (Nat.le_of_ble_eq_true rfl) rfl ?_
  intro X C
  refine r_iload_n (pc := 0) C dX1_nearest_0 rfl ?_
  refine r_istore_n (pc := 1) C dX1_nearest_1 (by decide) rfl ?_
  refine r_iconst (pc := 2) C (0) dX1_nearest_2 (by decide) ?_
  refine r_istore_n (pc := 3) C dX1_nearest_3 (by decide) rfl ?_
  refine r_iload_n (pc := 4) C dX1_nearest_4 rfl ?_
  refine r_bipush (pc := 5) C (6) dX1_nearest_5 (by decide) ?_
  refine q_ge (pc := 7) C 0 6 32 rfl rfl (by omega) (by omega) dX1_nearest_7 (by decide) (fun c7 => ?_) (fun c7 => ?_)
  · exact absurd c7 (by omega)
  · refine r_iload_n (pc := 10) C dX1_nearest_10 rfl ?_
    refine r_if_le (pc := 11) C 32 dX1_nearest_11 (by decide) (fun c11 => ?_) (fun c11 => ?_)
    · exact absurd c11 (by decide)
    · refine r_aload_n (pc := 14) C dX1_nearest_14 rfl ?_
      refine r_iload_n (pc := 15) C dX1_nearest_15 rfl ?_
      refine r_tald (t := 2) (pc := 16) C (by decide) dX1_nearest_16 (vp_in_nI (n := 4) (by decide) (by decide)) ?_
      refine q_val (23) (by decide) ?_
      refine r_if_ne (pc := 17) C 32 dX1_nearest_17 (by decide) (fun c17 => ?_) (fun c17 => ?_)
      · refine r_aload_n (pc := 32) C dX1_nearest_32 rfl ?_
        refine r_iload_n (pc := 33) C dX1_nearest_33 rfl ?_
        refine r_tald (t := 2) (pc := 34) C (by decide) dX1_nearest_34 (vp_in_nI (n := 4) (by decide) (by decide)) ?_
        refine q_val (23) (by decide) ?_
        refine q_iret (pc := 35) C dX1_nearest_35 rfl ?_
        exact ⟨rfl, rfl⟩
      · exact absurd c17 (by decide)
set_option maxRecDepth 100000 in
set_option maxHeartbeats 4000000 in
theorem c_near2_5 {G : GG} {kn : Nat} {f : MM}  : CI G mX1_nearest 1 kn [.ref (G.2.2.2 2), .int 5] f (23) f := by
  refine Ct.of [some (.ref (G.2.2.2 2)), some (.int 5), none, none] rfl (by decide +kernel) rfl (Nat.le_of_ble_eq_true rfl) rfl ?_
  intro X C
  refine r_iload_n (pc := 0) C dX1_nearest_0 rfl ?_
  refine r_istore_n (pc := 1) C dX1_nearest_1 (by decide) rfl ?_
  refine r_iconst (pc := 2) C (0) dX1_nearest_2 (by decide) ?_
  refine r_istore_n (pc := 3) C dX1_nearest_3 (by decide) rfl ?_
  refine r_iload_n (pc := 4) C dX1_nearest_4 rfl ?_
  refine r_bipush (pc := 5) C (6) dX1_nearest_5 (by decide) ?_
  refine q_ge (pc := 7) C 0 6 32 rfl rfl (by omega) (by omega) dX1_nearest_7 (by decide) (fun c7 => ?_) (fun c7 => ?_)
  · exact absurd c7 (by omega)
  · refine r_iload_n (pc := 10) C dX1_nearest_10 rfl ?_
    refine r_if_le (pc := 11) C 32 dX1_nearest_11 (by decide) (fun c11 => ?_) (fun c11 => ?_)
    · exact absurd c11 (by decide)
    · refine r_aload_n (pc := 14) C dX1_nearest_14 rfl ?_
      refine r_iload_n (pc := 15) C dX1_nearest_15 rfl ?_
      refine r_tald (t := 2) (pc := 16) C (by decide) dX1_nearest_16 (vp_in_nI (n := 5) (by decide) (by decide)) ?_
      refine q_val (0) (by decide) ?_
      refine r_if_ne (pc := 17) C 32 dX1_nearest_17 (by decide) (fun c17 => ?_) (fun c17 => ?_)
      · exact absurd rfl c17
      · refine r_gets (t := 0) (pc := 20) C (by decide) kgX1_15 dX1_nearest_20 ?_
        refine r_iload_n (pc := 23) C dX1_nearest_23 rfl ?_
        refine r_tald (t := 0) (pc := 24) C (by decide) dX1_nearest_24 (vp_in_nI (n := 5) (by decide) (by decide)) ?_
        refine q_val (4) (by decide) ?_
        refine r_istore_n (pc := 25) C dX1_nearest_25 (by decide) rfl ?_
        refine r_iinc (pc := 26) C (nI (0 + 1)) dX1_nearest_26 rfl (nI_inc _) (by decide) rfl ?_
        refine r_goto (pc := 29) C 4 dX1_nearest_29 (by decide) ?_
        refine r_iload_n (pc := 4) C dX1_nearest_4 rfl ?_
        refine r_bipush (pc := 5) C (6) dX1_nearest_5 (by decide) ?_
        refine q_ge (pc := 7) C (0 + 1) 6 32 rfl rfl (by omega) (by omega) dX1_nearest_7 (by decide) (fun c7 => ?_) (fun c7 => ?_)
        · exact absurd c7 (by omega)
        · refine r_iload_n (pc := 10) C dX1_nearest_10 rfl ?_
          refine r_if_le (pc := 11) C 32 dX1_nearest_11 (by decide) (fun c11 => ?_) (fun c11 => ?_)
          · exact absurd c11 (by decide)
          · refine r_aload_n (pc := 14) C dX1_nearest_14 rfl ?_
            refine r_iload_n (pc := 15) C dX1_nearest_15 rfl ?_
            refine r_tald (t := 2) (pc := 16) C (by decide) dX1_nearest_16 (vp_in_nI (n := 4) (by decide) (by decide)) ?_
            refine q_val (23) (by decide) ?_
            refine r_if_ne (pc := 17) C 32 dX1_nearest_17 (by decide) (fun c17 => ?_) (fun c17 => ?_)
            · refine r_aload_n (pc := 32) C dX1_nearest_32 rfl ?_
              refine r_iload_n (pc := 33) C dX1_nearest_33 rfl ?_
              refine r_tald (t := 2) (pc := 34) C (by decide) dX1_nearest_34 (vp_in_nI (n := 4) (by decide) (by decide)) ?_
              refine q_val (23) (by decide) ?_
              refine q_iret (pc := 35) C dX1_nearest_35 rfl ?_
              exact ⟨rfl, rfl⟩
            · exact absurd c17 (by decide)
set_option maxRecDepth 100000 in
set_option maxHeartbeats 4000000 in
theorem c_b10 {G : GG} {kn : Nat} {f : MM} {a t d w : Nat} (ha : isK kn a) (h47 : a ≠ 47) (h48 : a ≠ 48) (ht : t + 1 ≤ 16) (hd : d + 1 ≤ 17) (ht47 : f 47 1 = nI t) : CI G mX1_begin 2 kn [.ref (G.1 + 47), .int 10, .ref (G.1 + a), .int (nI w), .int (nI d)] f (f a 1) (tcF f (t) 10) := by
  refine Ct.of [some (.ref (G.1 + 47)), some (.int 10), some (.ref (G.1 + a)), some (.int (nI w)), some (.int (nI d)), none] rfl (by decide +kernel) rfl (Nat.le_of_ble_eq_true rfl) rfl ?_
  intro X C
  refine r_iload (pc := 0) C dX1_begin_0 rfl ?_
  refine r_bipush (pc := 2) C (16) dX1_begin_2 (by decide) ?_
  refine q_le (pc := 4) C d 16 9 rfl rfl (by omega) (by omega) dX1_begin_4 (by decide) (fun c4 => ?_) (fun c4 => ?_)
  · refine r_aload_n (pc := 9) C dX1_begin_9 rfl ?_
    refine r_iload_n (pc := 10) C dX1_begin_10 rfl ?_
    refine q_vVf (pc := 11) C kX1_48 dX1_begin_11 (c_X1_leaveTrace (t := t) (by omega) ht47) (s_47 _) rfl rfl (Nat.le_of_ble_eq_true rfl) (by decide) ⟨by decide, by decide⟩ ?_
    refine r_iload (pc := 14) C dX1_begin_14 rfl ?_
    refine r_iconst (pc := 16) C (1) dX1_begin_16 (by decide) ?_
    refine r_iadd (pc := 17) C dX1_begin_17 ?_
    refine q_is (d + 1) (nI_1 d) ?_
    refine r_istore (pc := 18) C dX1_begin_18 (by decide) rfl ?_
    refine r_iload_n (pc := 20) C dX1_begin_20 rfl ?_
    refine r_tableEq (pc := 21) C 96 (10) rfl dX1_begin_21 (by decide) (by decide) rfl (by decide) ?_
    refine r_aload_n (pc := 96) C dX1_begin_96 rfl ?_
    refine r_get (pc := 97) C fX1_52 dX1_begin_97 (k_0 ha) rfl ?_
    refine q_iret (pc := 100) C dX1_begin_100 rfl ?_
    exact ⟨by simp [tcF_a h47 h48], rfl⟩
  · exact absurd c4 (by omega)
set_option maxRecDepth 100000 in
set_option maxHeartbeats 4000000 in
theorem c_b20 {G : GG} {kn : Nat} {f : MM} {a t d w : Nat} (ha : isK kn a) (h47 : a ≠ 47) (h48 : a ≠ 48) (ht : t + 1 ≤ 16) (hd : d + 1 ≤ 17) (ht47 : f 47 1 = nI t) : CI G mX1_begin 2 kn [.ref (G.1 + 47), .int 20, .ref (G.1 + a), .int (nI w), .int (nI d)] f (nI w) (tcF f (t) 20) := by
  refine Ct.of [some (.ref (G.1 + 47)), some (.int 20), some (.ref (G.1 + a)), some (.int (nI w)), some (.int (nI d)), none] rfl (by decide +kernel) rfl (Nat.le_of_ble_eq_true rfl) rfl ?_
  intro X C
  refine r_iload (pc := 0) C dX1_begin_0 rfl ?_
  refine r_bipush (pc := 2) C (16) dX1_begin_2 (by decide) ?_
  refine q_le (pc := 4) C d 16 9 rfl rfl (by omega) (by omega) dX1_begin_4 (by decide) (fun c4 => ?_) (fun c4 => ?_)
  · refine r_aload_n (pc := 9) C dX1_begin_9 rfl ?_
    refine r_iload_n (pc := 10) C dX1_begin_10 rfl ?_
    refine q_vVf (pc := 11) C kX1_48 dX1_begin_11 (c_X1_leaveTrace (t := t) (by omega) ht47) (s_47 _) rfl rfl (Nat.le_of_ble_eq_true rfl) (by decide) ⟨by decide, by decide⟩ ?_
    refine r_iload (pc := 14) C dX1_begin_14 rfl ?_
    refine r_iconst (pc := 16) C (1) dX1_begin_16 (by decide) ?_
    refine r_iadd (pc := 17) C dX1_begin_17 ?_
    refine q_is (d + 1) (nI_1 d) ?_
    refine r_istore (pc := 18) C dX1_begin_18 (by decide) rfl ?_
    refine r_iload_n (pc := 20) C dX1_begin_20 rfl ?_
    refine r_tableEq (pc := 21) C 160 (20) rfl dX1_begin_21 (by decide) (by decide) rfl (by decide) ?_
    refine r_iload_n (pc := 160) C dX1_begin_160 rfl ?_
    refine q_iret (pc := 161) C dX1_begin_161 rfl ?_
    exact ⟨by simp [tcF_a h47 h48], rfl⟩
  · exact absurd c4 (by omega)
set_option maxRecDepth 100000 in
set_option maxHeartbeats 4000000 in
theorem c_b13 {G : GG} {kn : Nat} {f : MM} {a t d w : Nat} (ha : isK kn a) (h47 : a ≠ 47) (h48 : a ≠ 48) (ht : t + 2 ≤ 16) (hd : d + 2 ≤ 17) (ht47 : f 47 1 = nI t) : CI G mX1_begin 3 kn [.ref (G.1 + 47), .int 13, .ref (G.1 + a), .int (nI w), .int (nI d)] f (f a 1 - 100) (tcF (tcF f (t) 13) (t + 1) 10) := by
  refine Ct.of [some (.ref (G.1 + 47)), some (.int 13), some (.ref (G.1 + a)), some (.int (nI w)), some (.int (nI d)), none] rfl (by decide +kernel) rfl (Nat.le_of_ble_eq_true rfl) rfl ?_
  intro X C
  refine r_iload (pc := 0) C dX1_begin_0 rfl ?_
  refine r_bipush (pc := 2) C (16) dX1_begin_2 (by decide) ?_
  refine q_le (pc := 4) C d 16 9 rfl rfl (by omega) (by omega) dX1_begin_4 (by decide) (fun c4 => ?_) (fun c4 => ?_)
  · refine r_aload_n (pc := 9) C dX1_begin_9 rfl ?_
    refine r_iload_n (pc := 10) C dX1_begin_10 rfl ?_
    refine q_vVf (pc := 11) C kX1_48 dX1_begin_11 (c_X1_leaveTrace (t := t) (by omega) ht47) (s_47 _) rfl rfl (Nat.le_of_ble_eq_true rfl) (by decide) ⟨by decide, by decide⟩ ?_
    refine r_iload (pc := 14) C dX1_begin_14 rfl ?_
    refine r_iconst (pc := 16) C (1) dX1_begin_16 (by decide) ?_
    refine r_iadd (pc := 17) C dX1_begin_17 ?_
    refine q_is (d + 1) (nI_1 d) ?_
    refine r_istore (pc := 18) C dX1_begin_18 (by decide) rfl ?_
    refine r_iload_n (pc := 20) C dX1_begin_20 rfl ?_
    refine r_tableEq (pc := 21) C 133 (13) rfl dX1_begin_21 (by decide) (by decide) rfl (by decide) ?_
    refine r_aload_n (pc := 133) C dX1_begin_133 rfl ?_
    refine r_bipush (pc := 134) C (10) dX1_begin_134 (by decide) ?_
    refine r_aload_n (pc := 136) C dX1_begin_136 rfl ?_
    refine r_iload_n (pc := 137) C dX1_begin_137 rfl ?_
    refine r_iload (pc := 138) C dX1_begin_138 rfl ?_
    refine q_vIf (pc := 140) C kX1_41 dX1_begin_140 (c_b10 (t := t + 1) (d := d + 1) (w := w) ha h47 h48 (by omega) (by omega) tcF_47) (s_47 _) rfl rfl (Nat.le_of_ble_eq_true rfl) (by decide) ⟨by decide, by decide⟩ ?_
    refine r_bipush (pc := 143) C (100) dX1_begin_143 (by decide) ?_
    refine r_isub (pc := 145) C dX1_begin_145 ?_
    refine q_iret (pc := 146) C dX1_begin_146 rfl ?_
    exact ⟨by simp [tcF_a h47 h48], rfl⟩
  · exact absurd c4 (by omega)
set_option maxRecDepth 100000 in
set_option maxHeartbeats 4000000 in
theorem c_b14 {G : GG} {kn : Nat} {f : MM} {a t d w : Nat} (ha : isK kn a) (h47 : a ≠ 47) (h48 : a ≠ 48) (ht : t + 3 ≤ 16) (hd : d + 3 ≤ 17) (ht47 : f 47 1 = nI t) : CI G mX1_begin 4 kn [.ref (G.1 + 47), .int 14, .ref (G.1 + a), .int (nI w), .int (nI d)] f (2 * (f a 1 - 100)) (tcF (tcF (tcF f (t) 14) (t + 1) 13) (t + 1 + 1) 10) := by
  refine Ct.of [some (.ref (G.1 + 47)), some (.int 14), some (.ref (G.1 + a)), some (.int (nI w)), some (.int (nI d)), none] rfl (by decide +kernel) rfl (Nat.le_of_ble_eq_true rfl) rfl ?_
  intro X C
  refine r_iload (pc := 0) C dX1_begin_0 rfl ?_
  refine r_bipush (pc := 2) C (16) dX1_begin_2 (by decide) ?_
  refine q_le (pc := 4) C d 16 9 rfl rfl (by omega) (by omega) dX1_begin_4 (by decide) (fun c4 => ?_) (fun c4 => ?_)
  · refine r_aload_n (pc := 9) C dX1_begin_9 rfl ?_
    refine r_iload_n (pc := 10) C dX1_begin_10 rfl ?_
    refine q_vVf (pc := 11) C kX1_48 dX1_begin_11 (c_X1_leaveTrace (t := t) (by omega) ht47) (s_47 _) rfl rfl (Nat.le_of_ble_eq_true rfl) (by decide) ⟨by decide, by decide⟩ ?_
    refine r_iload (pc := 14) C dX1_begin_14 rfl ?_
    refine r_iconst (pc := 16) C (1) dX1_begin_16 (by decide) ?_
    refine r_iadd (pc := 17) C dX1_begin_17 ?_
    refine q_is (d + 1) (nI_1 d) ?_
    refine r_istore (pc := 18) C dX1_begin_18 (by decide) rfl ?_
    refine r_iload_n (pc := 20) C dX1_begin_20 rfl ?_
    refine r_tableEq (pc := 21) C 147 (14) rfl dX1_begin_21 (by decide) (by decide) rfl (by decide) ?_
    refine r_iconst (pc := 147) C (2) dX1_begin_147 (by decide) ?_
    refine r_aload_n (pc := 148) C dX1_begin_148 rfl ?_
    refine r_bipush (pc := 149) C (13) dX1_begin_149 (by decide) ?_
    refine r_aload_n (pc := 151) C dX1_begin_151 rfl ?_
    refine r_iload_n (pc := 152) C dX1_begin_152 rfl ?_
    refine r_iload (pc := 153) C dX1_begin_153 rfl ?_
    refine q_vIf (pc := 155) C kX1_41 dX1_begin_155 (c_b13 (t := t + 1) (d := d + 1) (w := w) ha h47 h48 (by omega) (by omega) tcF_47) (s_47 _) rfl rfl (Nat.le_of_ble_eq_true rfl) (by decide) ⟨by decide, by decide⟩ ?_
    refine r_imul (pc := 158) C dX1_begin_158 ?_
    refine q_iret (pc := 159) C dX1_begin_159 rfl ?_
    exact ⟨by simp [tcF_a h47 h48], rfl⟩
  · exact absurd c4 (by omega)
set_option maxRecDepth 100000 in
set_option maxHeartbeats 4000000 in
theorem c_b21 {G : GG} {kn : Nat} {f : MM} {a t d w : Nat} (ha : isK kn a) (h47 : a ≠ 47) (h48 : a ≠ 48) (ht : t + 2 ≤ 16) (hd : d + 2 ≤ 17) (ht47 : f 47 1 = nI t) : CI G mX1_begin 3 kn [.ref (G.1 + 47), .int 21, .ref (G.1 + a), .int (nI w), .int (nI d)] f (nI w + f a 3) (tcF (tcF f (t) 21) (t + 1) 20) := by
  refine Ct.of [some (.ref (G.1 + 47)), some (.int 21), some (.ref (G.1 + a)), some (.int (nI w)), some (.int (nI d)), none] rfl (by decide +kernel) rfl (Nat.le_of_ble_eq_true rfl) rfl ?_
  intro X C
  refine r_iload (pc := 0) C dX1_begin_0 rfl ?_
  refine r_bipush (pc := 2) C (16) dX1_begin_2 (by decide) ?_
  refine q_le (pc := 4) C d 16 9 rfl rfl (by omega) (by omega) dX1_begin_4 (by decide) (fun c4 => ?_) (fun c4 => ?_)
  · refine r_aload_n (pc := 9) C dX1_begin_9 rfl ?_
    refine r_iload_n (pc := 10) C dX1_begin_10 rfl ?_
    refine q_vVf (pc := 11) C kX1_48 dX1_begin_11 (c_X1_leaveTrace (t := t) (by omega) ht47) (s_47 _) rfl rfl (Nat.le_of_ble_eq_true rfl) (by decide) ⟨by decide, by decide⟩ ?_
    refine r_iload (pc := 14) C dX1_begin_14 rfl ?_
    refine r_iconst (pc := 16) C (1) dX1_begin_16 (by decide) ?_
    refine r_iadd (pc := 17) C dX1_begin_17 ?_
    refine q_is (d + 1) (nI_1 d) ?_
    refine r_istore (pc := 18) C dX1_begin_18 (by decide) rfl ?_
    refine r_iload_n (pc := 20) C dX1_begin_20 rfl ?_
    refine r_tableEq (pc := 21) C 162 (21) rfl dX1_begin_21 (by decide) (by decide) rfl (by decide) ?_
    refine r_aload_n (pc := 162) C dX1_begin_162 rfl ?_
    refine r_bipush (pc := 163) C (20) dX1_begin_163 (by decide) ?_
    refine r_aload_n (pc := 165) C dX1_begin_165 rfl ?_
    refine r_iload_n (pc := 166) C dX1_begin_166 rfl ?_
    refine r_iload (pc := 167) C dX1_begin_167 rfl ?_
    refine q_vIf (pc := 169) C kX1_41 dX1_begin_169 (c_b20 (t := t + 1) (d := d + 1) (w := w) ha h47 h48 (by omega) (by omega) tcF_47) (s_47 _) rfl rfl (Nat.le_of_ble_eq_true rfl) (by decide) ⟨by decide, by decide⟩ ?_
    refine r_aload_n (pc := 172) C dX1_begin_172 rfl ?_
    refine r_get (pc := 173) C fX1_55 dX1_begin_173 (k_0 ha) rfl ?_
    refine r_iadd (pc := 176) C dX1_begin_176 ?_
    refine q_iret (pc := 177) C dX1_begin_177 rfl ?_
    exact ⟨by simp [tcF_a h47 h48], rfl⟩
  · exact absurd c4 (by omega)
set_option maxRecDepth 100000 in
set_option maxHeartbeats 4000000 in
theorem c_b22 {G : GG} {kn : Nat} {f : MM} {a t d w : Nat} (ha : isK kn a) (h47 : a ≠ 47) (h48 : a ≠ 48) (ht : t + 3 ≤ 16) (hd : d + 3 ≤ 17) (ht47 : f 47 1 = nI t) : CI G mX1_begin 4 kn [.ref (G.1 + 47), .int 22, .ref (G.1 + a), .int (nI w), .int (nI d)] f (nI w + f a 3 - 1000) (tcF (tcF (tcF f (t) 22) (t + 1) 21) (t + 1 + 1) 20) := by
  refine Ct.of [some (.ref (G.1 + 47)), some (.int 22), some (.ref (G.1 + a)), some (.int (nI w)), some (.int (nI d)), none] rfl (by decide +kernel) rfl (Nat.le_of_ble_eq_true rfl) rfl ?_
  intro X C
  refine r_iload (pc := 0) C dX1_begin_0 rfl ?_
  refine r_bipush (pc := 2) C (16) dX1_begin_2 (by decide) ?_
  refine q_le (pc := 4) C d 16 9 rfl rfl (by omega) (by omega) dX1_begin_4 (by decide) (fun c4 => ?_) (fun c4 => ?_)
  · refine r_aload_n (pc := 9) C dX1_begin_9 rfl ?_
    refine r_iload_n (pc := 10) C dX1_begin_10 rfl ?_
    refine q_vVf (pc := 11) C kX1_48 dX1_begin_11 (c_X1_leaveTrace (t := t) (by omega) ht47) (s_47 _) rfl rfl (Nat.le_of_ble_eq_true rfl) (by decide) ⟨by decide, by decide⟩ ?_
    refine r_iload (pc := 14) C dX1_begin_14 rfl ?_
    refine r_iconst (pc := 16) C (1) dX1_begin_16 (by decide) ?_
    refine r_iadd (pc := 17) C dX1_begin_17 ?_
    refine q_is (d + 1) (nI_1 d) ?_
    refine r_istore (pc := 18) C dX1_begin_18 (by decide) rfl ?_
    refine r_iload_n (pc := 20) C dX1_begin_20 rfl ?_
    refine r_tableEq (pc := 21) C 178 (22) rfl dX1_begin_21 (by decide) (by decide) rfl (by decide) ?_
    refine r_aload_n (pc := 178) C dX1_begin_178 rfl ?_
    refine r_bipush (pc := 179) C (21) dX1_begin_179 (by decide) ?_
    refine r_aload_n (pc := 181) C dX1_begin_181 rfl ?_
    refine r_iload_n (pc := 182) C dX1_begin_182 rfl ?_
    refine r_iload (pc := 183) C dX1_begin_183 rfl ?_
    refine q_vIf (pc := 185) C kX1_41 dX1_begin_185 (c_b21 (t := t + 1) (d := d + 1) (w := w) ha h47 h48 (by omega) (by omega) tcF_47) (s_47 _) rfl rfl (Nat.le_of_ble_eq_true rfl) (by decide) ⟨by decide, by decide⟩ ?_
    refine r_sipush (pc := 188) C (1000) dX1_begin_188 (by decide) ?_
    refine r_isub (pc := 191) C dX1_begin_191 ?_
    refine q_iret (pc := 192) C dX1_begin_192 rfl ?_
    exact ⟨by simp [tcF_a h47 h48], rfl⟩
  · exact absurd c4 (by omega)
set_option maxRecDepth 100000 in
set_option maxHeartbeats 4000000 in
theorem c_b24 {G : GG} {kn : Nat} {f : MM} {a t d w : Nat} (ha : isK kn a) (h47 : a ≠ 47) (h48 : a ≠ 48) (ht : t + 3 ≤ 16) (hd : d + 3 ≤ 17) (ht47 : f 47 1 = nI t) : CI G mX1_begin 4 kn [.ref (G.1 + 47), .int 24, .ref (G.1 + a), .int (nI w), .int (nI d)] f (2 * (nI w + f a 3)) (tcF (tcF (tcF f (t) 24) (t + 1) 21) (t + 1 + 1) 20) := by
  refine Ct.of [some (.ref (G.1 + 47)), some (.int 24), some (.ref (G.1 + a)), some (.int (nI w)), some (.int (nI d)), none] rfl (by decide +kernel) rfl (Nat.le_of_ble_eq_true rfl) rfl ?_
  intro X C
  refine r_iload (pc := 0) C dX1_begin_0 rfl ?_
  refine r_bipush (pc := 2) C (16) dX1_begin_2 (by decide) ?_
  refine q_le (pc := 4) C d 16 9 rfl rfl (by omega) (by omega) dX1_begin_4 (by decide) (fun c4 => ?_) (fun c4 => ?_)
  · refine r_aload_n (pc := 9) C dX1_begin_9 rfl ?_
    refine r_iload_n (pc := 10) C dX1_begin_10 rfl ?_
    refine q_vVf (pc := 11) C kX1_48 dX1_begin_11 (c_X1_leaveTrace (t := t) (by omega) ht47) (s_47 _) rfl rfl (Nat.le_of_ble_eq_true rfl) (by decide) ⟨by decide, by decide⟩ ?_
    refine r_iload (pc := 14) C dX1_begin_14 rfl ?_
    refine r_iconst (pc := 16) C (1) dX1_begin_16 (by decide) ?_
    refine r_iadd (pc := 17) C dX1_begin_17 ?_
    refine q_is (d + 1) (nI_1 d) ?_
    refine r_istore (pc := 18) C dX1_begin_18 (by decide) rfl ?_
    refine r_iload_n (pc := 20) C dX1_begin_20 rfl ?_
    refine r_tableEq (pc := 21) C 213 (24) rfl dX1_begin_21 (by decide) (by decide) rfl (by decide) ?_
    refine r_iconst (pc := 213) C (2) dX1_begin_213 (by decide) ?_
    refine r_aload_n (pc := 214) C dX1_begin_214 rfl ?_
    refine r_bipush (pc := 215) C (21) dX1_begin_215 (by decide) ?_
    refine r_aload_n (pc := 217) C dX1_begin_217 rfl ?_
    refine r_iload_n (pc := 218) C dX1_begin_218 rfl ?_
    refine r_iload (pc := 219) C dX1_begin_219 rfl ?_
    refine q_vIf (pc := 221) C kX1_41 dX1_begin_221 (c_b21 (t := t + 1) (d := d + 1) (w := w) ha h47 h48 (by omega) (by omega) tcF_47) (s_47 _) rfl rfl (Nat.le_of_ble_eq_true rfl) (by decide) ⟨by decide, by decide⟩ ?_
    refine r_imul (pc := 224) C dX1_begin_224 ?_
    refine q_iret (pc := 225) C dX1_begin_225 rfl ?_
    exact ⟨by simp [tcF_a h47 h48], rfl⟩
  · exact absurd c4 (by omega)
set_option maxRecDepth 100000 in
set_option maxHeartbeats 4000000 in
theorem c_mark1 {G : GG} {kn : Nat} {f : MM} {a t d w : Nat} (ha : isK kn a) (h47 : a ≠ 47) (h48 : a ≠ 48) (ht : t + 2 ≤ 16) (hd : d + 2 ≤ 17) (ht47 : f 47 1 = nI t) (hk : f a 0 = 1) : CI G mX1_markOf 5 kn [.ref (G.1 + 47), .ref (G.1 + a), .int (nI w), .int (nI d)] f (nI w + f a 3) (tcF (tcF f (t) 21) (t + 1) 20) := by
  refine Ct.of [some (.ref (G.1 + 47)), some (.ref (G.1 + a)), some (.int (nI w)), some (.int (nI d))] rfl (by decide +kernel) rfl (Nat.le_of_ble_eq_true rfl) rfl ?_
  intro X C
  refine r_aload_n (pc := 0) C dX1_markOf_0 rfl ?_
  refine r_gets (t := 2) (pc := 1) C (by decide) kgX1_45 dX1_markOf_1 ?_
  refine r_aload_n (pc := 4) C dX1_markOf_4 rfl ?_
  refine r_get (pc := 5) C fX1_32 dX1_markOf_5 (k_0 ha) rfl ?_
  refine q_val (1) hk ?_
  refine q_sIf (pc := 8) C kX1_37 dX1_markOf_8 (c_near2_1) rfl rfl (Nat.le_of_ble_eq_true rfl) (by decide) ⟨by decide, by decide⟩ ?_
  refine r_aload_n (pc := 11) C dX1_markOf_11 rfl ?_
  refine r_iload_n (pc := 12) C dX1_markOf_12 rfl ?_
  refine r_iload_n (pc := 13) C dX1_markOf_13 rfl ?_
  refine q_vIf (pc := 14) C kX1_41 dX1_markOf_14 (c_b21 (t := t) (d := d) (w := w) ha h47 h48 (by omega) (by omega) ht47) (s_47 _) rfl rfl (Nat.le_of_ble_eq_true rfl) (by decide) ⟨by decide, by decide⟩ ?_
  refine q_iret (pc := 17) C dX1_markOf_17 rfl ?_
  exact ⟨rfl, rfl⟩
set_option maxRecDepth 100000 in
set_option maxHeartbeats 4000000 in
theorem c_mark2 {G : GG} {kn : Nat} {f : MM} {a t d w : Nat} (ha : isK kn a) (h47 : a ≠ 47) (h48 : a ≠ 48) (ht : t + 3 ≤ 16) (hd : d + 3 ≤ 17) (ht47 : f 47 1 = nI t) (hk : f a 0 = 2) : CI G mX1_markOf 5 kn [.ref (G.1 + 47), .ref (G.1 + a), .int (nI w), .int (nI d)] f (2 * (nI w + f a 3)) (tcF (tcF (tcF f (t) 24) (t + 1) 21) (t + 1 + 1) 20) := by
  refine Ct.of [some (.ref (G.1 + 47)), some (.ref (G.1 + a)), some (.int (nI w)), some (.int (nI d))] rfl (by decide +kernel) rfl (Nat.le_of_ble_eq_true rfl) rfl ?_
  intro X C
  refine r_aload_n (pc := 0) C dX1_markOf_0 rfl ?_
  refine r_gets (t := 2) (pc := 1) C (by decide) kgX1_45 dX1_markOf_1 ?_
  refine r_aload_n (pc := 4) C dX1_markOf_4 rfl ?_
  refine r_get (pc := 5) C fX1_32 dX1_markOf_5 (k_0 ha) rfl ?_
  refine q_val (2) hk ?_
  refine q_sIf (pc := 8) C kX1_37 dX1_markOf_8 (c_near2_2) rfl rfl (Nat.le_of_ble_eq_true rfl) (by decide) ⟨by decide, by decide⟩ ?_
  refine r_aload_n (pc := 11) C dX1_markOf_11 rfl ?_
  refine r_iload_n (pc := 12) C dX1_markOf_12 rfl ?_
  refine r_iload_n (pc := 13) C dX1_markOf_13 rfl ?_
  refine q_vIf (pc := 14) C kX1_41 dX1_markOf_14 (c_b24 (t := t) (d := d) (w := w) ha h47 h48 (by omega) (by omega) ht47) (s_47 _) rfl rfl (Nat.le_of_ble_eq_true rfl) (by decide) ⟨by decide, by decide⟩ ?_
  refine q_iret (pc := 17) C dX1_markOf_17 rfl ?_
  exact ⟨rfl, rfl⟩
set_option maxRecDepth 100000 in
set_option maxHeartbeats 4000000 in
theorem c_mark3 {G : GG} {kn : Nat} {f : MM} {a t d w : Nat} (ha : isK kn a) (h47 : a ≠ 47) (h48 : a ≠ 48) (ht : t + 3 ≤ 16) (hd : d + 3 ≤ 17) (ht47 : f 47 1 = nI t) (hk : f a 0 = 3) : CI G mX1_markOf 5 kn [.ref (G.1 + 47), .ref (G.1 + a), .int (nI w), .int (nI d)] f (nI w + f a 3 - 1000) (tcF (tcF (tcF f (t) 22) (t + 1) 21) (t + 1 + 1) 20) := by
  refine Ct.of [some (.ref (G.1 + 47)), some (.ref (G.1 + a)), some (.int (nI w)), some (.int (nI d))] rfl (by decide +kernel) rfl (Nat.le_of_ble_eq_true rfl) rfl ?_
  intro X C
  refine r_aload_n (pc := 0) C dX1_markOf_0 rfl ?_
  refine r_gets (t := 2) (pc := 1) C (by decide) kgX1_45 dX1_markOf_1 ?_
  refine r_aload_n (pc := 4) C dX1_markOf_4 rfl ?_
  refine r_get (pc := 5) C fX1_32 dX1_markOf_5 (k_0 ha) rfl ?_
  refine q_val (3) hk ?_
  refine q_sIf (pc := 8) C kX1_37 dX1_markOf_8 (c_near2_3) rfl rfl (Nat.le_of_ble_eq_true rfl) (by decide) ⟨by decide, by decide⟩ ?_
  refine r_aload_n (pc := 11) C dX1_markOf_11 rfl ?_
  refine r_iload_n (pc := 12) C dX1_markOf_12 rfl ?_
  refine r_iload_n (pc := 13) C dX1_markOf_13 rfl ?_
  refine q_vIf (pc := 14) C kX1_41 dX1_markOf_14 (c_b22 (t := t) (d := d) (w := w) ha h47 h48 (by omega) (by omega) ht47) (s_47 _) rfl rfl (Nat.le_of_ble_eq_true rfl) (by decide) ⟨by decide, by decide⟩ ?_
  refine q_iret (pc := 17) C dX1_markOf_17 rfl ?_
  exact ⟨rfl, rfl⟩
set_option maxRecDepth 100000 in
set_option maxHeartbeats 4000000 in
theorem c_size4 {G : GG} {kn : Nat} {f : MM} {a t d w : Nat} (ha : isK kn a) (h47 : a ≠ 47) (h48 : a ≠ 48) (ht : t + 2 ≤ 16) (hd : d + 2 ≤ 17) (ht47 : f 47 1 = nI t) (hk : f a 0 = 4) : CI G mX1_sizeOf 5 kn [.ref (G.1 + 47), .ref (G.1 + a), .int (nI w), .int (nI d)] f (f a 1 - 100) (tcF (tcF f (t) 13) (t + 1) 10) := by
  refine Ct.of [some (.ref (G.1 + 47)), some (.ref (G.1 + a)), some (.int (nI w)), some (.int (nI d))] rfl (by decide +kernel) rfl (Nat.le_of_ble_eq_true rfl) rfl ?_
  intro X C
  refine r_aload_n (pc := 0) C dX1_sizeOf_0 rfl ?_
  refine r_gets (t := 1) (pc := 1) C (by decide) kgX1_29 dX1_sizeOf_1 ?_
  refine r_aload_n (pc := 4) C dX1_sizeOf_4 rfl ?_
  refine r_get (pc := 5) C fX1_32 dX1_sizeOf_5 (k_0 ha) rfl ?_
  refine q_val (4) hk ?_
  refine q_sIf (pc := 8) C kX1_37 dX1_sizeOf_8 (c_near1_4) rfl rfl (Nat.le_of_ble_eq_true rfl) (by decide) ⟨by decide, by decide⟩ ?_
  refine r_aload_n (pc := 11) C dX1_sizeOf_11 rfl ?_
  refine r_iload_n (pc := 12) C dX1_sizeOf_12 rfl ?_
  refine r_iload_n (pc := 13) C dX1_sizeOf_13 rfl ?_
  refine q_vIf (pc := 14) C kX1_41 dX1_sizeOf_14 (c_b13 (t := t) (d := d) (w := w) ha h47 h48 (by omega) (by omega) ht47) (s_47 _) rfl rfl (Nat.le_of_ble_eq_true rfl) (by decide) ⟨by decide, by decide⟩ ?_
  refine q_iret (pc := 17) C dX1_sizeOf_17 rfl ?_
  exact ⟨rfl, rfl⟩
set_option maxRecDepth 100000 in
set_option maxHeartbeats 4000000 in
theorem c_size5 {G : GG} {kn : Nat} {f : MM} {a t d w : Nat} (ha : isK kn a) (h47 : a ≠ 47) (h48 : a ≠ 48) (ht : t + 3 ≤ 16) (hd : d + 3 ≤ 17) (ht47 : f 47 1 = nI t) (hk : f a 0 = 5) : CI G mX1_sizeOf 5 kn [.ref (G.1 + 47), .ref (G.1 + a), .int (nI w), .int (nI d)] f (2 * (f a 1 - 100)) (tcF (tcF (tcF f (t) 14) (t + 1) 13) (t + 1 + 1) 10) := by
  refine Ct.of [some (.ref (G.1 + 47)), some (.ref (G.1 + a)), some (.int (nI w)), some (.int (nI d))] rfl (by decide +kernel) rfl (Nat.le_of_ble_eq_true rfl) rfl ?_
  intro X C
  refine r_aload_n (pc := 0) C dX1_sizeOf_0 rfl ?_
  refine r_gets (t := 1) (pc := 1) C (by decide) kgX1_29 dX1_sizeOf_1 ?_
  refine r_aload_n (pc := 4) C dX1_sizeOf_4 rfl ?_
  refine r_get (pc := 5) C fX1_32 dX1_sizeOf_5 (k_0 ha) rfl ?_
  refine q_val (5) hk ?_
  refine q_sIf (pc := 8) C kX1_37 dX1_sizeOf_8 (c_near1_5) rfl rfl (Nat.le_of_ble_eq_true rfl) (by decide) ⟨by decide, by decide⟩ ?_
  refine r_aload_n (pc := 11) C dX1_sizeOf_11 rfl ?_
  refine r_iload_n (pc := 12) C dX1_sizeOf_12 rfl ?_
  refine r_iload_n (pc := 13) C dX1_sizeOf_13 rfl ?_
  refine q_vIf (pc := 14) C kX1_41 dX1_sizeOf_14 (c_b14 (t := t) (d := d) (w := w) ha h47 h48 (by omega) (by omega) ht47) (s_47 _) rfl rfl (Nat.le_of_ble_eq_true rfl) (by decide) ⟨by decide, by decide⟩ ?_
  refine q_iret (pc := 17) C dX1_sizeOf_17 rfl ?_
  exact ⟨rfl, rfl⟩
set_option maxRecDepth 100000 in
set_option maxHeartbeats 4000000 in
theorem c_b23_4 {G : GG} {kn : Nat} {f : MM} {a t d w : Nat} (ha : isK kn a) (h47 : a ≠ 47) (h48 : a ≠ 48) (ht : t + 4 ≤ 16) (hd : d + 3 ≤ 17) (ht47 : f 47 1 = nI t) (hk : f a 0 = 4) : CI G mX1_begin 6 kn [.ref (G.1 + 47), .int 23, .ref (G.1 + a), .int (nI w), .int (nI d)] f (nI w - (f a 1 - 100)) (tcF (tcF (tcF (tcF f (t) 23) (t + 1) 20) (t + 1 + 1) 13) (t + 1 + 1 + 1) 10) := by
  refine Ct.of [some (.ref (G.1 + 47)), some (.int 23), some (.ref (G.1 + a)), some (.int (nI w)), some (.int (nI d)), none] rfl (by decide +kernel) rfl (Nat.le_of_ble_eq_true rfl) rfl ?_
  intro X C
  refine r_iload (pc := 0) C dX1_begin_0 rfl ?_
  refine r_bipush (pc := 2) C (16) dX1_begin_2 (by decide) ?_
  refine q_le (pc := 4) C d 16 9 rfl rfl (by omega) (by omega) dX1_begin_4 (by decide) (fun c4 => ?_) (fun c4 => ?_)
  · refine r_aload_n (pc := 9) C dX1_begin_9 rfl ?_
    refine r_iload_n (pc := 10) C dX1_begin_10 rfl ?_
    refine q_vVf (pc := 11) C kX1_48 dX1_begin_11 (c_X1_leaveTrace (t := t) (by omega) ht47) (s_47 _) rfl rfl (Nat.le_of_ble_eq_true rfl) (by decide) ⟨by decide, by decide⟩ ?_
    refine r_iload (pc := 14) C dX1_begin_14 rfl ?_
    refine r_iconst (pc := 16) C (1) dX1_begin_16 (by decide) ?_
    refine r_iadd (pc := 17) C dX1_begin_17 ?_
    refine q_is (d + 1) (nI_1 d) ?_
    refine r_istore (pc := 18) C dX1_begin_18 (by decide) rfl ?_
    refine r_iload_n (pc := 20) C dX1_begin_20 rfl ?_
    refine r_tableEq (pc := 21) C 193 (23) rfl dX1_begin_21 (by decide) (by decide) rfl (by decide) ?_
    refine r_aload_n (pc := 193) C dX1_begin_193 rfl ?_
    refine r_bipush (pc := 194) C (20) dX1_begin_194 (by decide) ?_
    refine r_aload_n (pc := 196) C dX1_begin_196 rfl ?_
    refine r_iload_n (pc := 197) C dX1_begin_197 rfl ?_
    refine r_iload (pc := 198) C dX1_begin_198 rfl ?_
    refine q_vIf (pc := 200) C kX1_41 dX1_begin_200 (c_b20 (t := t + 1) (d := d + 1) (w := w) ha h47 h48 (by omega) (by omega) tcF_47) (s_47 _) rfl rfl (Nat.le_of_ble_eq_true rfl) (by decide) ⟨by decide, by decide⟩ ?_
    refine r_aload_n (pc := 203) C dX1_begin_203 rfl ?_
    refine r_aload_n (pc := 204) C dX1_begin_204 rfl ?_
    refine r_iload_n (pc := 205) C dX1_begin_205 rfl ?_
    refine r_iload (pc := 206) C dX1_begin_206 rfl ?_
    refine q_vIf (pc := 208) C kX1_22 dX1_begin_208 (c_size4 (t := t + 1 + 1) (d := d + 1) (w := w) ha h47 h48 (by omega) (by omega) tcF_47 (by rw [tcF_a h47 h48, tcF_a h47 h48]; exact hk)) (s_47 _) rfl rfl (Nat.le_of_ble_eq_true rfl) (by decide) ⟨by decide, by decide⟩ ?_
    refine r_isub (pc := 211) C dX1_begin_211 ?_
    refine q_iret (pc := 212) C dX1_begin_212 rfl ?_
    exact ⟨by simp [tcF_a h47 h48], rfl⟩
  · exact absurd c4 (by omega)
set_option maxRecDepth 100000 in
set_option maxHeartbeats 4000000 in
theorem c_b23_5 {G : GG} {kn : Nat} {f : MM} {a t d w : Nat} (ha : isK kn a) (h47 : a ≠ 47) (h48 : a ≠ 48) (ht : t + 5 ≤ 16) (hd : d + 4 ≤ 17) (ht47 : f 47 1 = nI t) (hk : f a 0 = 5) : CI G mX1_begin 6 kn [.ref (G.1 + 47), .int 23, .ref (G.1 + a), .int (nI w), .int (nI d)] f (nI w - 2 * (f a 1 - 100)) (tcF (tcF (tcF (tcF (tcF f (t) 23) (t + 1) 20) (t + 1 + 1) 14) (t + 1 + 1 + 1) 13) (t + 1 + 1 + 1 + 1) 10) := by
  refine Ct.of [some (.ref (G.1 + 47)), some (.int 23), some (.ref (G.1 + a)), some (.int (nI w)), some (.int (nI d)), none] rfl (by decide +kernel) rfl (Nat.le_of_ble_eq_true rfl) rfl ?_
  intro X C
  refine r_iload (pc := 0) C dX1_begin_0 rfl ?_
  refine r_bipush (pc := 2) C (16) dX1_begin_2 (by decide) ?_
  refine q_le (pc := 4) C d 16 9 rfl rfl (by omega) (by omega) dX1_begin_4 (by decide) (fun c4 => ?_) (fun c4 => ?_)
  · refine r_aload_n (pc := 9) C dX1_begin_9 rfl ?_
    refine r_iload_n (pc := 10) C dX1_begin_10 rfl ?_
    refine q_vVf (pc := 11) C kX1_48 dX1_begin_11 (c_X1_leaveTrace (t := t) (by omega) ht47) (s_47 _) rfl rfl (Nat.le_of_ble_eq_true rfl) (by decide) ⟨by decide, by decide⟩ ?_
    refine r_iload (pc := 14) C dX1_begin_14 rfl ?_
    refine r_iconst (pc := 16) C (1) dX1_begin_16 (by decide) ?_
    refine r_iadd (pc := 17) C dX1_begin_17 ?_
    refine q_is (d + 1) (nI_1 d) ?_
    refine r_istore (pc := 18) C dX1_begin_18 (by decide) rfl ?_
    refine r_iload_n (pc := 20) C dX1_begin_20 rfl ?_
    refine r_tableEq (pc := 21) C 193 (23) rfl dX1_begin_21 (by decide) (by decide) rfl (by decide) ?_
    refine r_aload_n (pc := 193) C dX1_begin_193 rfl ?_
    refine r_bipush (pc := 194) C (20) dX1_begin_194 (by decide) ?_
    refine r_aload_n (pc := 196) C dX1_begin_196 rfl ?_
    refine r_iload_n (pc := 197) C dX1_begin_197 rfl ?_
    refine r_iload (pc := 198) C dX1_begin_198 rfl ?_
    refine q_vIf (pc := 200) C kX1_41 dX1_begin_200 (c_b20 (t := t + 1) (d := d + 1) (w := w) ha h47 h48 (by omega) (by omega) tcF_47) (s_47 _) rfl rfl (Nat.le_of_ble_eq_true rfl) (by decide) ⟨by decide, by decide⟩ ?_
    refine r_aload_n (pc := 203) C dX1_begin_203 rfl ?_
    refine r_aload_n (pc := 204) C dX1_begin_204 rfl ?_
    refine r_iload_n (pc := 205) C dX1_begin_205 rfl ?_
    refine r_iload (pc := 206) C dX1_begin_206 rfl ?_
    refine q_vIf (pc := 208) C kX1_22 dX1_begin_208 (c_size5 (t := t + 1 + 1) (d := d + 1) (w := w) ha h47 h48 (by omega) (by omega) tcF_47 (by rw [tcF_a h47 h48, tcF_a h47 h48]; exact hk)) (s_47 _) rfl rfl (Nat.le_of_ble_eq_true rfl) (by decide) ⟨by decide, by decide⟩ ?_
    refine r_isub (pc := 211) C dX1_begin_211 ?_
    refine q_iret (pc := 212) C dX1_begin_212 rfl ?_
    exact ⟨by simp [tcF_a h47 h48], rfl⟩
  · exact absurd c4 (by omega)
set_option maxRecDepth 100000 in
set_option maxHeartbeats 4000000 in
theorem c_mark4 {G : GG} {kn : Nat} {f : MM} {a t d w : Nat} (ha : isK kn a) (h47 : a ≠ 47) (h48 : a ≠ 48) (ht : t + 4 ≤ 16) (hd : d + 3 ≤ 17) (ht47 : f 47 1 = nI t) (hk : f a 0 = 4) : CI G mX1_markOf 7 kn [.ref (G.1 + 47), .ref (G.1 + a), .int (nI w), .int (nI d)] f (nI w - (f a 1 - 100)) (tcF (tcF (tcF (tcF f (t) 23) (t + 1) 20) (t + 1 + 1) 13) (t + 1 + 1 + 1) 10) := by
  refine Ct.of [some (.ref (G.1 + 47)), some (.ref (G.1 + a)), some (.int (nI w)), some (.int (nI d))] rfl (by decide +kernel) rfl (Nat.le_of_ble_eq_true rfl) rfl ?_
  intro X C
  refine r_aload_n (pc := 0) C dX1_markOf_0 rfl ?_
  refine r_gets (t := 2) (pc := 1) C (by decide) kgX1_45 dX1_markOf_1 ?_
  refine r_aload_n (pc := 4) C dX1_markOf_4 rfl ?_
  refine r_get (pc := 5) C fX1_32 dX1_markOf_5 (k_0 ha) rfl ?_
  refine q_val (4) hk ?_
  refine q_sIf (pc := 8) C kX1_37 dX1_markOf_8 (c_near2_4) rfl rfl (Nat.le_of_ble_eq_true rfl) (by decide) ⟨by decide, by decide⟩ ?_
  refine r_aload_n (pc := 11) C dX1_markOf_11 rfl ?_
  refine r_iload_n (pc := 12) C dX1_markOf_12 rfl ?_
  refine r_iload_n (pc := 13) C dX1_markOf_13 rfl ?_
  refine q_vIf (pc := 14) C kX1_41 dX1_markOf_14 (c_b23_4 (t := t) (d := d) (w := w) ha h47 h48 (by omega) (by omega) ht47 hk) (s_47 _) rfl rfl (Nat.le_of_ble_eq_true rfl) (by decide) ⟨by decide, by decide⟩ ?_
  refine q_iret (pc := 17) C dX1_markOf_17 rfl ?_
  exact ⟨rfl, rfl⟩
set_option maxRecDepth 100000 in
set_option maxHeartbeats 4000000 in
theorem c_mark5 {G : GG} {kn : Nat} {f : MM} {a t d w : Nat} (ha : isK kn a) (h47 : a ≠ 47) (h48 : a ≠ 48) (ht : t + 5 ≤ 16) (hd : d + 4 ≤ 17) (ht47 : f 47 1 = nI t) (hk : f a 0 = 5) : CI G mX1_markOf 7 kn [.ref (G.1 + 47), .ref (G.1 + a), .int (nI w), .int (nI d)] f (nI w - 2 * (f a 1 - 100)) (tcF (tcF (tcF (tcF (tcF f (t) 23) (t + 1) 20) (t + 1 + 1) 14) (t + 1 + 1 + 1) 13) (t + 1 + 1 + 1 + 1) 10) := by
  refine Ct.of [some (.ref (G.1 + 47)), some (.ref (G.1 + a)), some (.int (nI w)), some (.int (nI d))] rfl (by decide +kernel) rfl (Nat.le_of_ble_eq_true rfl) rfl ?_
  intro X C
  refine r_aload_n (pc := 0) C dX1_markOf_0 rfl ?_
  refine r_gets (t := 2) (pc := 1) C (by decide) kgX1_45 dX1_markOf_1 ?_
  refine r_aload_n (pc := 4) C dX1_markOf_4 rfl ?_
  refine r_get (pc := 5) C fX1_32 dX1_markOf_5 (k_0 ha) rfl ?_
  refine q_val (5) hk ?_
  refine q_sIf (pc := 8) C kX1_37 dX1_markOf_8 (c_near2_5) rfl rfl (Nat.le_of_ble_eq_true rfl) (by decide) ⟨by decide, by decide⟩ ?_
  refine r_aload_n (pc := 11) C dX1_markOf_11 rfl ?_
  refine r_iload_n (pc := 12) C dX1_markOf_12 rfl ?_
  refine r_iload_n (pc := 13) C dX1_markOf_13 rfl ?_
  refine q_vIf (pc := 14) C kX1_41 dX1_markOf_14 (c_b23_5 (t := t) (d := d) (w := w) ha h47 h48 (by omega) (by omega) ht47 hk) (s_47 _) rfl rfl (Nat.le_of_ble_eq_true rfl) (by decide) ⟨by decide, by decide⟩ ?_
  refine q_iret (pc := 17) C dX1_markOf_17 rfl ?_
  exact ⟨rfl, rfl⟩
set_option maxRecDepth 100000 in
set_option maxHeartbeats 4000000 in
theorem c_b11_1 {G : GG} {kn : Nat} {f : MM} {a t d w : Nat} (ha : isK kn a) (h47 : a ≠ 47) (h48 : a ≠ 48) (ht : t + 4 ≤ 16) (hd : d + 3 ≤ 17) (ht47 : f 47 1 = nI t) (hk : f a 0 = 1) : CI G mX1_begin 8 kn [.ref (G.1 + 47), .int 11, .ref (G.1 + a), .int (nI w), .int (nI d)] f (f a 1 + (nI w + f a 3)) (tcF (tcF (tcF (tcF f (t) 11) (t + 1) 10) (t + 1 + 1) 21) (t + 1 + 1 + 1) 20) := by
  refine Ct.of [some (.ref (G.1 + 47)), some (.int 11), some (.ref (G.1 + a)), some (.int (nI w)), some (.int (nI d)), none] rfl (by decide +kernel) rfl (Nat.le_of_ble_eq_true rfl) rfl ?_
  intro X C
  refine r_iload (pc := 0) C dX1_begin_0 rfl ?_
  refine r_bipush (pc := 2) C (16) dX1_begin_2 (by decide) ?_
  refine q_le (pc := 4) C d 16 9 rfl rfl (by omega) (by omega) dX1_begin_4 (by decide) (fun c4 => ?_) (fun c4 => ?_)
  · refine r_aload_n (pc := 9) C dX1_begin_9 rfl ?_
    refine r_iload_n (pc := 10) C dX1_begin_10 rfl ?_
    refine q_vVf (pc := 11) C kX1_48 dX1_begin_11 (c_X1_leaveTrace (t := t) (by omega) ht47) (s_47 _) rfl rfl (Nat.le_of_ble_eq_true rfl) (by decide) ⟨by decide, by decide⟩ ?_
    refine r_iload (pc := 14) C dX1_begin_14 rfl ?_
    refine r_iconst (pc := 16) C (1) dX1_begin_16 (by decide) ?_
    refine r_iadd (pc := 17) C dX1_begin_17 ?_
    refine q_is (d + 1) (nI_1 d) ?_
    refine r_istore (pc := 18) C dX1_begin_18 (by decide) rfl ?_
    refine r_iload_n (pc := 20) C dX1_begin_20 rfl ?_
    refine r_tableEq (pc := 21) C 101 (11) rfl dX1_begin_21 (by decide) (by decide) rfl (by decide) ?_
    refine r_aload_n (pc := 101) C dX1_begin_101 rfl ?_
    refine r_bipush (pc := 102) C (10) dX1_begin_102 (by decide) ?_
    refine r_aload_n (pc := 104) C dX1_begin_104 rfl ?_
    refine r_iload_n (pc := 105) C dX1_begin_105 rfl ?_
    refine r_iload (pc := 106) C dX1_begin_106 rfl ?_
    refine q_vIf (pc := 108) C kX1_41 dX1_begin_108 (c_b10 (t := t + 1) (d := d + 1) (w := w) ha h47 h48 (by omega) (by omega) tcF_47) (s_47 _) rfl rfl (Nat.le_of_ble_eq_true rfl) (by decide) ⟨by decide, by decide⟩ ?_
    refine r_aload_n (pc := 111) C dX1_begin_111 rfl ?_
    refine r_aload_n (pc := 112) C dX1_begin_112 rfl ?_
    refine r_iload_n (pc := 113) C dX1_begin_113 rfl ?_
    refine r_iload (pc := 114) C dX1_begin_114 rfl ?_
    refine q_vIf (pc := 116) C kX1_26 dX1_begin_116 (c_mark1 (t := t + 1 + 1) (d := d + 1) (w := w) ha h47 h48 (by omega) (by omega) tcF_47 (by rw [tcF_a h47 h48, tcF_a h47 h48]; exact hk)) (s_47 _) rfl rfl (Nat.le_of_ble_eq_true rfl) (by decide) ⟨by decide, by decide⟩ ?_
    refine r_iadd (pc := 119) C dX1_begin_119 ?_
    refine q_iret (pc := 120) C dX1_begin_120 rfl ?_
    exact ⟨by simp [tcF_a h47 h48], rfl⟩
  · exact absurd c4 (by omega)
set_option maxRecDepth 100000 in
set_option maxHeartbeats 4000000 in
theorem c_b11_2 {G : GG} {kn : Nat} {f : MM} {a t d w : Nat} (ha : isK kn a) (h47 : a ≠ 47) (h48 : a ≠ 48) (ht : t + 5 ≤ 16) (hd : d + 4 ≤ 17) (ht47 : f 47 1 = nI t) (hk : f a 0 = 2) : CI G mX1_begin 8 kn [.ref (G.1 + 47), .int 11, .ref (G.1 + a), .int (nI w), .int (nI d)] f (f a 1 + (2 * (nI w + f a 3))) (tcF (tcF (tcF (tcF (tcF f (t) 11) (t + 1) 10) (t + 1 + 1) 24) (t + 1 + 1 + 1) 21) (t + 1 + 1 + 1 + 1) 20) := by
  refine Ct.of [some (.ref (G.1 + 47)), some (.int 11), some (.ref (G.1 + a)), some (.int (nI w)), some (.int (nI d)), none] rfl (by decide +kernel) rfl (Nat.le_of_ble_eq_true rfl) rfl ?_
  intro X C
  refine r_iload (pc := 0) C dX1_begin_0 rfl ?_
  refine r_bipush (pc := 2) C (16) dX1_begin_2 (by decide) ?_
  refine q_le (pc := 4) C d 16 9 rfl rfl (by omega) (by omega) dX1_begin_4 (by decide) (fun c4 => ?_) (fun c4 => ?_)
  · refine r_aload_n (pc := 9) C dX1_begin_9 rfl ?_
    refine r_iload_n (pc := 10) C dX1_begin_10 rfl ?_
    refine q_vVf (pc := 11) C kX1_48 dX1_begin_11 (c_X1_leaveTrace (t := t) (by omega) ht47) (s_47 _) rfl rfl (Nat.le_of_ble_eq_true rfl) (by decide) ⟨by decide, by decide⟩ ?_
    refine r_iload (pc := 14) C dX1_begin_14 rfl ?_
    refine r_iconst (pc := 16) C (1) dX1_begin_16 (by decide) ?_
    refine r_iadd (pc := 17) C dX1_begin_17 ?_
    refine q_is (d + 1) (nI_1 d) ?_
    refine r_istore (pc := 18) C dX1_begin_18 (by decide) rfl ?_
    refine r_iload_n (pc := 20) C dX1_begin_20 rfl ?_
    refine r_tableEq (pc := 21) C 101 (11) rfl dX1_begin_21 (by decide) (by decide) rfl (by decide) ?_
    refine r_aload_n (pc := 101) C dX1_begin_101 rfl ?_
    refine r_bipush (pc := 102) C (10) dX1_begin_102 (by decide) ?_
    refine r_aload_n (pc := 104) C dX1_begin_104 rfl ?_
    refine r_iload_n (pc := 105) C dX1_begin_105 rfl ?_
    refine r_iload (pc := 106) C dX1_begin_106 rfl ?_
    refine q_vIf (pc := 108) C kX1_41 dX1_begin_108 (c_b10 (t := t + 1) (d := d + 1) (w := w) ha h47 h48 (by omega) (by omega) tcF_47) (s_47 _) rfl rfl (Nat.le_of_ble_eq_true rfl) (by decide) ⟨by decide, by decide⟩ ?_
    refine r_aload_n (pc := 111) C dX1_begin_111 rfl ?_
    refine r_aload_n (pc := 112) C dX1_begin_112 rfl ?_
    refine r_iload_n (pc := 113) C dX1_begin_113 rfl ?_
    refine r_iload (pc := 114) C dX1_begin_114 rfl ?_
    refine q_vIf (pc := 116) C kX1_26 dX1_begin_116 (c_mark2 (t := t + 1 + 1) (d := d + 1) (w := w) ha h47 h48 (by omega) (by omega) tcF_47 (by rw [tcF_a h47 h48, tcF_a h47 h48]; exact hk)) (s_47 _) rfl rfl (Nat.le_of_ble_eq_true rfl) (by decide) ⟨by decide, by decide⟩ ?_
    refine r_iadd (pc := 119) C dX1_begin_119 ?_
    refine q_iret (pc := 120) C dX1_begin_120 rfl ?_
    exact ⟨by simp [tcF_a h47 h48], rfl⟩
  · exact absurd c4 (by omega)
set_option maxRecDepth 100000 in
set_option maxHeartbeats 4000000 in
theorem c_b11_3 {G : GG} {kn : Nat} {f : MM} {a t d w : Nat} (ha : isK kn a) (h47 : a ≠ 47) (h48 : a ≠ 48) (ht : t + 5 ≤ 16) (hd : d + 4 ≤ 17) (ht47 : f 47 1 = nI t) (hk : f a 0 = 3) : CI G mX1_begin 8 kn [.ref (G.1 + 47), .int 11, .ref (G.1 + a), .int (nI w), .int (nI d)] f (f a 1 + (nI w + f a 3 - 1000)) (tcF (tcF (tcF (tcF (tcF f (t) 11) (t + 1) 10) (t + 1 + 1) 22) (t + 1 + 1 + 1) 21) (t + 1 + 1 + 1 + 1) 20) := by
  refine Ct.of [some (.ref (G.1 + 47)), some (.int 11), some (.ref (G.1 + a)), some (.int (nI w)), some (.int (nI d)), none] rfl (by decide +kernel) rfl (Nat.le_of_ble_eq_true rfl) rfl ?_
  intro X C
  refine r_iload (pc := 0) C dX1_begin_0 rfl ?_
  refine r_bipush (pc := 2) C (16) dX1_begin_2 (by decide) ?_
  refine q_le (pc := 4) C d 16 9 rfl rfl (by omega) (by omega) dX1_begin_4 (by decide) (fun c4 => ?_) (fun c4 => ?_)
  · refine r_aload_n (pc := 9) C dX1_begin_9 rfl ?_
    refine r_iload_n (pc := 10) C dX1_begin_10 rfl ?_
    refine q_vVf (pc := 11) C kX1_48 dX1_begin_11 (c_X1_leaveTrace (t := t) (by omega) ht47) (s_47 _) rfl rfl (Nat.le_of_ble_eq_true rfl) (by decide) ⟨by decide, by decide⟩ ?_
    refine r_iload (pc := 14) C dX1_begin_14 rfl ?_
    refine r_iconst (pc := 16) C (1) dX1_begin_16 (by decide) ?_
    refine r_iadd (pc := 17) C dX1_begin_17 ?_
    refine q_is (d + 1) (nI_1 d) ?_
    refine r_istore (pc := 18) C dX1_begin_18 (by decide) rfl ?_
    refine r_iload_n (pc := 20) C dX1_begin_20 rfl ?_
    refine r_tableEq (pc := 21) C 101 (11) rfl dX1_begin_21 (by decide) (by decide) rfl (by decide) ?_
    refine r_aload_n (pc := 101) C dX1_begin_101 rfl ?_
    refine r_bipush (pc := 102) C (10) dX1_begin_102 (by decide) ?_
    refine r_aload_n (pc := 104) C dX1_begin_104 rfl ?_
    refine r_iload_n (pc := 105) C dX1_begin_105 rfl ?_
    refine r_iload (pc := 106) C dX1_begin_106 rfl ?_
    refine q_vIf (pc := 108) C kX1_41 dX1_begin_108 (c_b10 (t := t + 1) (d := d + 1) (w := w) ha h47 h48 (by omega) (by omega) tcF_47) (s_47 _) rfl rfl (Nat.le_of_ble_eq_true rfl) (by decide) ⟨by decide, by decide⟩ ?_
    refine r_aload_n (pc := 111) C dX1_begin_111 rfl ?_
    refine r_aload_n (pc := 112) C dX1_begin_112 rfl ?_
    refine r_iload_n (pc := 113) C dX1_begin_113 rfl ?_
    refine r_iload (pc := 114) C dX1_begin_114 rfl ?_
    refine q_vIf (pc := 116) C kX1_26 dX1_begin_116 (c_mark3 (t := t + 1 + 1) (d := d + 1) (w := w) ha h47 h48 (by omega) (by omega) tcF_47 (by rw [tcF_a h47 h48, tcF_a h47 h48]; exact hk)) (s_47 _) rfl rfl (Nat.le_of_ble_eq_true rfl) (by decide) ⟨by decide, by decide⟩ ?_
    refine r_iadd (pc := 119) C dX1_begin_119 ?_
    refine q_iret (pc := 120) C dX1_begin_120 rfl ?_
    exact ⟨by simp [tcF_a h47 h48], rfl⟩
  · exact absurd c4 (by omega)
set_option maxRecDepth 100000 in
set_option maxHeartbeats 4000000 in
theorem c_b12_2 {G : GG} {kn : Nat} {f : MM} {a t d w : Nat} (ha : isK kn a) (h47 : a ≠ 47) (h48 : a ≠ 48) (ht : t + 6 ≤ 16) (hd : d + 5 ≤ 17) (ht47 : f 47 1 = nI t) (hk : f a 0 = 2) : CI G mX1_begin 9 kn [.ref (G.1 + 47), .int 12, .ref (G.1 + a), .int (nI w), .int (nI d)] f (-(f a 1 + (2 * (nI w + f a 3)))) (tcF (tcF (tcF (tcF (tcF (tcF f (t) 12) (t + 1) 11) (t + 1 + 1) 10) (t + 1 + 1 + 1) 24) (t + 1 + 1 + 1 + 1) 21) (t + 1 + 1 + 1 + 1 + 1) 20) := by
  refine Ct.of [some (.ref (G.1 + 47)), some (.int 12), some (.ref (G.1 + a)), some (.int (nI w)), some (.int (nI d)), none] rfl (by decide +kernel) rfl (Nat.le_of_ble_eq_true rfl) rfl ?_
  intro X C
  refine r_iload (pc := 0) C dX1_begin_0 rfl ?_
  refine r_bipush (pc := 2) C (16) dX1_begin_2 (by decide) ?_
  refine q_le (pc := 4) C d 16 9 rfl rfl (by omega) (by omega) dX1_begin_4 (by decide) (fun c4 => ?_) (fun c4 => ?_)
  · refine r_aload_n (pc := 9) C dX1_begin_9 rfl ?_
    refine r_iload_n (pc := 10) C dX1_begin_10 rfl ?_
    refine q_vVf (pc := 11) C kX1_48 dX1_begin_11 (c_X1_leaveTrace (t := t) (by omega) ht47) (s_47 _) rfl rfl (Nat.le_of_ble_eq_true rfl) (by decide) ⟨by decide, by decide⟩ ?_
    refine r_iload (pc := 14) C dX1_begin_14 rfl ?_
    refine r_iconst (pc := 16) C (1) dX1_begin_16 (by decide) ?_
    refine r_iadd (pc := 17) C dX1_begin_17 ?_
    refine q_is (d + 1) (nI_1 d) ?_
    refine r_istore (pc := 18) C dX1_begin_18 (by decide) rfl ?_
    refine r_iload_n (pc := 20) C dX1_begin_20 rfl ?_
    refine r_tableEq (pc := 21) C 121 (12) rfl dX1_begin_21 (by decide) (by decide) rfl (by decide) ?_
    refine r_aload_n (pc := 121) C dX1_begin_121 rfl ?_
    refine r_bipush (pc := 122) C (11) dX1_begin_122 (by decide) ?_
    refine r_aload_n (pc := 124) C dX1_begin_124 rfl ?_
    refine r_iload_n (pc := 125) C dX1_begin_125 rfl ?_
    refine r_iload (pc := 126) C dX1_begin_126 rfl ?_
    refine q_vIf (pc := 128) C kX1_41 dX1_begin_128 (c_b11_2 (t := t + 1) (d := d + 1) (w := w) ha h47 h48 (by omega) (by omega) tcF_47 (by rw [tcF_a h47 h48]; exact hk)) (s_47 _) rfl rfl (Nat.le_of_ble_eq_true rfl) (by decide) ⟨by decide, by decide⟩ ?_
    refine r_ineg (pc := 131) C dX1_begin_131 ?_
    refine q_iret (pc := 132) C dX1_begin_132 rfl ?_
    exact ⟨by simp [tcF_a h47 h48], rfl⟩
  · exact absurd c4 (by omega)
set_option maxRecDepth 100000 in
set_option maxHeartbeats 4000000 in
theorem c_size1 {G : GG} {kn : Nat} {f : MM} {a t d w : Nat} (ha : isK kn a) (h47 : a ≠ 47) (h48 : a ≠ 48) (ht : t + 4 ≤ 16) (hd : d + 3 ≤ 17) (ht47 : f 47 1 = nI t) (hk : f a 0 = 1) : CI G mX1_sizeOf 10 kn [.ref (G.1 + 47), .ref (G.1 + a), .int (nI w), .int (nI d)] f (f a 1 + (nI w + f a 3)) (tcF (tcF (tcF (tcF f (t) 11) (t + 1) 10) (t + 1 + 1) 21) (t + 1 + 1 + 1) 20) := by
  refine Ct.of [some (.ref (G.1 + 47)), some (.ref (G.1 + a)), some (.int (nI w)), some (.int (nI d))] rfl (by decide +kernel) rfl (Nat.le_of_ble_eq_true rfl) rfl ?_
  intro X C
  refine r_aload_n (pc := 0) C dX1_sizeOf_0 rfl ?_
  refine r_gets (t := 1) (pc := 1) C (by decide) kgX1_29 dX1_sizeOf_1 ?_
  refine r_aload_n (pc := 4) C dX1_sizeOf_4 rfl ?_
  refine r_get (pc := 5) C fX1_32 dX1_sizeOf_5 (k_0 ha) rfl ?_
  refine q_val (1) hk ?_
  refine q_sIf (pc := 8) C kX1_37 dX1_sizeOf_8 (c_near1_1) rfl rfl (Nat.le_of_ble_eq_true rfl) (by decide) ⟨by decide, by decide⟩ ?_
  refine r_aload_n (pc := 11) C dX1_sizeOf_11 rfl ?_
  refine r_iload_n (pc := 12) C dX1_sizeOf_12 rfl ?_
  refine r_iload_n (pc := 13) C dX1_sizeOf_13 rfl ?_
  refine q_vIf (pc := 14) C kX1_41 dX1_sizeOf_14 (c_b11_1 (t := t) (d := d) (w := w) ha h47 h48 (by omega) (by omega) ht47 hk) (s_47 _) rfl rfl (Nat.le_of_ble_eq_true rfl) (by decide) ⟨by decide, by decide⟩ ?_
  refine q_iret (pc := 17) C dX1_sizeOf_17 rfl ?_
  exact ⟨rfl, rfl⟩
set_option maxRecDepth 100000 in
set_option maxHeartbeats 4000000 in
theorem c_size2 {G : GG} {kn : Nat} {f : MM} {a t d w : Nat} (ha : isK kn a) (h47 : a ≠ 47) (h48 : a ≠ 48) (ht : t + 6 ≤ 16) (hd : d + 5 ≤ 17) (ht47 : f 47 1 = nI t) (hk : f a 0 = 2) : CI G mX1_sizeOf 10 kn [.ref (G.1 + 47), .ref (G.1 + a), .int (nI w), .int (nI d)] f (-(f a 1 + (2 * (nI w + f a 3)))) (tcF (tcF (tcF (tcF (tcF (tcF f (t) 12) (t + 1) 11) (t + 1 + 1) 10) (t + 1 + 1 + 1) 24) (t + 1 + 1 + 1 + 1) 21) (t + 1 + 1 + 1 + 1 + 1) 20) := by
  refine Ct.of [some (.ref (G.1 + 47)), some (.ref (G.1 + a)), some (.int (nI w)), some (.int (nI d))] rfl (by decide +kernel) rfl (Nat.le_of_ble_eq_true rfl) rfl ?_
  intro X C
  refine r_aload_n (pc := 0) C dX1_sizeOf_0 rfl ?_
  refine r_gets (t := 1) (pc := 1) C (by decide) kgX1_29 dX1_sizeOf_1 ?_
  refine r_aload_n (pc := 4) C dX1_sizeOf_4 rfl ?_
  refine r_get (pc := 5) C fX1_32 dX1_sizeOf_5 (k_0 ha) rfl ?_
  refine q_val (2) hk ?_
  refine q_sIf (pc := 8) C kX1_37 dX1_sizeOf_8 (c_near1_2) rfl rfl (Nat.le_of_ble_eq_true rfl) (by decide) ⟨by decide, by decide⟩ ?_
  refine r_aload_n (pc := 11) C dX1_sizeOf_11 rfl ?_
  refine r_iload_n (pc := 12) C dX1_sizeOf_12 rfl ?_
  refine r_iload_n (pc := 13) C dX1_sizeOf_13 rfl ?_
  refine q_vIf (pc := 14) C kX1_41 dX1_sizeOf_14 (c_b12_2 (t := t) (d := d) (w := w) ha h47 h48 (by omega) (by omega) ht47 hk) (s_47 _) rfl rfl (Nat.le_of_ble_eq_true rfl) (by decide) ⟨by decide, by decide⟩ ?_
  refine q_iret (pc := 17) C dX1_sizeOf_17 rfl ?_
  exact ⟨rfl, rfl⟩
set_option maxRecDepth 100000 in
set_option maxHeartbeats 4000000 in
theorem c_size3 {G : GG} {kn : Nat} {f : MM} {a t d w : Nat} (ha : isK kn a) (h47 : a ≠ 47) (h48 : a ≠ 48) (ht : t + 5 ≤ 16) (hd : d + 4 ≤ 17) (ht47 : f 47 1 = nI t) (hk : f a 0 = 3) : CI G mX1_sizeOf 10 kn [.ref (G.1 + 47), .ref (G.1 + a), .int (nI w), .int (nI d)] f (f a 1 + (nI w + f a 3 - 1000)) (tcF (tcF (tcF (tcF (tcF f (t) 11) (t + 1) 10) (t + 1 + 1) 22) (t + 1 + 1 + 1) 21) (t + 1 + 1 + 1 + 1) 20) := by
  refine Ct.of [some (.ref (G.1 + 47)), some (.ref (G.1 + a)), some (.int (nI w)), some (.int (nI d))] rfl (by decide +kernel) rfl (Nat.le_of_ble_eq_true rfl) rfl ?_
  intro X C
  refine r_aload_n (pc := 0) C dX1_sizeOf_0 rfl ?_
  refine r_gets (t := 1) (pc := 1) C (by decide) kgX1_29 dX1_sizeOf_1 ?_
  refine r_aload_n (pc := 4) C dX1_sizeOf_4 rfl ?_
  refine r_get (pc := 5) C fX1_32 dX1_sizeOf_5 (k_0 ha) rfl ?_
  refine q_val (3) hk ?_
  refine q_sIf (pc := 8) C kX1_37 dX1_sizeOf_8 (c_near1_3) rfl rfl (Nat.le_of_ble_eq_true rfl) (by decide) ⟨by decide, by decide⟩ ?_
  refine r_aload_n (pc := 11) C dX1_sizeOf_11 rfl ?_
  refine r_iload_n (pc := 12) C dX1_sizeOf_12 rfl ?_
  refine r_iload_n (pc := 13) C dX1_sizeOf_13 rfl ?_
  refine q_vIf (pc := 14) C kX1_41 dX1_sizeOf_14 (c_b11_3 (t := t) (d := d) (w := w) ha h47 h48 (by omega) (by omega) ht47 hk) (s_47 _) rfl rfl (Nat.le_of_ble_eq_true rfl) (by decide) ⟨by decide, by decide⟩ ?_
  refine q_iret (pc := 17) C dX1_sizeOf_17 rfl ?_
  exact ⟨rfl, rfl⟩
def soV2 (k pa : Int32) : Int32 × List Int32 := if k = 5 then (2 * (pa - 100), [14, 13, 10]) else (pa - 100, [13, 10])
def mkV (k pa ti nu : Int32) : Int32 × List Int32 := if k = 2 then (2 * (nu + ti), [24, 21, 20]) else if k = 3 then (nu + ti - 1000, [22, 21, 20]) else if k = 1 then (nu + ti, [21, 20]) else (nu - (soV2 k pa).1, 23 :: 20 :: (soV2 k pa).2)
def ssV (k pa ti nu : Int32) : Int32 × List Int32 := (pa + (mkV k pa ti nu).1, 11 :: 10 :: (mkV k pa ti nu).2)
def szV (k pa ti nu : Int32) : Int32 × List Int32 := if k = 2 then (-(ssV k pa ti nu).1, 12 :: (ssV k pa ti nu).2) else if k < 4 then ssV k pa ti nu else soV2 k pa
def askV (k pa ti nu q : Int32) : Int32 × List Int32 := if q = 0 then szV k pa ti nu else mkV k pa ti nu
def trC : MM → Nat → List Int32 → MM
  | f, _, [] => f
  | f, t, b :: l => trC (tcF f t b) (t + 1) l
def trR : MM → Nat → List Int32 → MM
  | f, _, [] => f
  | f, t, b :: l => trR (trF f t b) (t + 1) l
set_option maxRecDepth 100000 in
set_option maxHeartbeats 4000000 in
theorem c_X1_answer {G : GG} {kn : Nat} {f : MM} {a w : Nat} (ha : isK kn a) (h47 : a ≠ 47) (h48 : a ≠ 48) (hk : f a 0 = 1 ∨ f a 0 = 2 ∨ f a 0 = 3 ∨ f a 0 = 4 ∨ f a 0 = 5) {q : Int32} : CI G mX1_answer 11 kn [.ref (G.1 + 47), .ref (G.1 + a), .int (nI w), .int q] f (askV (f a 0) (f a 1) (f a 3) (nI w) q).1 (trC (u2 f 47 1 0) 0 (askV (f a 0) (f a 1) (f a 3) (nI w) q).2) := by
  refine Ct.of [some (.ref (G.1 + 47)), some (.ref (G.1 + a)), some (.int (nI w)), some (.int q)] rfl (by decide +kernel) rfl (Nat.le_of_ble_eq_true rfl) rfl ?_
  intro X C
  rcases hk with hk | hk | hk | hk | hk
  · skip
    refine r_aload_n (pc := 0) C dX1_answer_0 rfl ?_
    refine r_iconst (pc := 1) C (0) dX1_answer_1 (by decide) ?_
    refine r_put (pc := 2) C fX1_18 ftX1_1 dX1_answer_2 (s_47 _) rfl ?_
    refine r_iload_n (pc := 5) C dX1_answer_5 rfl ?_
    refine r_if_ne (pc := 6) C 17 dX1_answer_6 (by decide) (fun c6 => ?_) (fun c6 => ?_)
    · refine r_aload_n (pc := 17) C dX1_answer_17 rfl ?_
      refine r_aload_n (pc := 18) C dX1_answer_18 rfl ?_
      refine r_iload_n (pc := 19) C dX1_answer_19 rfl ?_
      refine r_iconst (pc := 20) C (0) dX1_answer_20 (by decide) ?_
      refine q_vIf (pc := 21) C kX1_26 dX1_answer_21 (c_mark1 (t := 0) (d := 0) (w := w) ha h47 h48 (by omega) (by omega) (by simp [u2, nI_0]) (by rw [u2_row h47]; exact hk)) (s_47 _) rfl rfl (Nat.le_of_ble_eq_true rfl) (by decide) ⟨by decide, by decide⟩ ?_
      refine q_iret (pc := 24) C dX1_answer_24 rfl ?_
      refine ⟨?_, ?_⟩
      · unfold askV; rw [if_neg c6, hk, u2_row h47]; rfl
      · unfold askV; rw [if_neg c6, hk]; rfl
    · refine r_aload_n (pc := 9) C dX1_answer_9 rfl ?_
      refine r_aload_n (pc := 10) C dX1_answer_10 rfl ?_
      refine r_iload_n (pc := 11) C dX1_answer_11 rfl ?_
      refine r_iconst (pc := 12) C (0) dX1_answer_12 (by decide) ?_
      refine q_vIf (pc := 13) C kX1_22 dX1_answer_13 (c_size1 (t := 0) (d := 0) (w := w) ha h47 h48 (by omega) (by omega) (by simp [u2, nI_0]) (by rw [u2_row h47]; exact hk)) (s_47 _) rfl rfl (Nat.le_of_ble_eq_true rfl) (by decide) ⟨by decide, by decide⟩ ?_
      refine q_iret (pc := 16) C dX1_answer_16 rfl ?_
      refine ⟨?_, ?_⟩
      · unfold askV; rw [if_pos c6, hk, u2_row h47]; rfl
      · unfold askV; rw [if_pos c6, hk]; rfl
  · skip
    refine r_aload_n (pc := 0) C dX1_answer_0 rfl ?_
    refine r_iconst (pc := 1) C (0) dX1_answer_1 (by decide) ?_
    refine r_put (pc := 2) C fX1_18 ftX1_1 dX1_answer_2 (s_47 _) rfl ?_
    refine r_iload_n (pc := 5) C dX1_answer_5 rfl ?_
    refine r_if_ne (pc := 6) C 17 dX1_answer_6 (by decide) (fun c6 => ?_) (fun c6 => ?_)
    · refine r_aload_n (pc := 17) C dX1_answer_17 rfl ?_
      refine r_aload_n (pc := 18) C dX1_answer_18 rfl ?_
      refine r_iload_n (pc := 19) C dX1_answer_19 rfl ?_
      refine r_iconst (pc := 20) C (0) dX1_answer_20 (by decide) ?_
      refine q_vIf (pc := 21) C kX1_26 dX1_answer_21 (c_mark2 (t := 0) (d := 0) (w := w) ha h47 h48 (by omega) (by omega) (by simp [u2, nI_0]) (by rw [u2_row h47]; exact hk)) (s_47 _) rfl rfl (Nat.le_of_ble_eq_true rfl) (by decide) ⟨by decide, by decide⟩ ?_
      refine q_iret (pc := 24) C dX1_answer_24 rfl ?_
      refine ⟨?_, ?_⟩
      · unfold askV; rw [if_neg c6, hk, u2_row h47]; rfl
      · unfold askV; rw [if_neg c6, hk]; rfl
    · refine r_aload_n (pc := 9) C dX1_answer_9 rfl ?_
      refine r_aload_n (pc := 10) C dX1_answer_10 rfl ?_
      refine r_iload_n (pc := 11) C dX1_answer_11 rfl ?_
      refine r_iconst (pc := 12) C (0) dX1_answer_12 (by decide) ?_
      refine q_vIf (pc := 13) C kX1_22 dX1_answer_13 (c_size2 (t := 0) (d := 0) (w := w) ha h47 h48 (by omega) (by omega) (by simp [u2, nI_0]) (by rw [u2_row h47]; exact hk)) (s_47 _) rfl rfl (Nat.le_of_ble_eq_true rfl) (by decide) ⟨by decide, by decide⟩ ?_
      refine q_iret (pc := 16) C dX1_answer_16 rfl ?_
      refine ⟨?_, ?_⟩
      · unfold askV; rw [if_pos c6, hk, u2_row h47]; rfl
      · unfold askV; rw [if_pos c6, hk]; rfl
  · skip
    refine r_aload_n (pc := 0) C dX1_answer_0 rfl ?_
    refine r_iconst (pc := 1) C (0) dX1_answer_1 (by decide) ?_
    refine r_put (pc := 2) C fX1_18 ftX1_1 dX1_answer_2 (s_47 _) rfl ?_
    refine r_iload_n (pc := 5) C dX1_answer_5 rfl ?_
    refine r_if_ne (pc := 6) C 17 dX1_answer_6 (by decide) (fun c6 => ?_) (fun c6 => ?_)
    · refine r_aload_n (pc := 17) C dX1_answer_17 rfl ?_
      refine r_aload_n (pc := 18) C dX1_answer_18 rfl ?_
      refine r_iload_n (pc := 19) C dX1_answer_19 rfl ?_
      refine r_iconst (pc := 20) C (0) dX1_answer_20 (by decide) ?_
      refine q_vIf (pc := 21) C kX1_26 dX1_answer_21 (c_mark3 (t := 0) (d := 0) (w := w) ha h47 h48 (by omega) (by omega) (by simp [u2, nI_0]) (by rw [u2_row h47]; exact hk)) (s_47 _) rfl rfl (Nat.le_of_ble_eq_true rfl) (by decide) ⟨by decide, by decide⟩ ?_
      refine q_iret (pc := 24) C dX1_answer_24 rfl ?_
      refine ⟨?_, ?_⟩
      · unfold askV; rw [if_neg c6, hk, u2_row h47]; rfl
      · unfold askV; rw [if_neg c6, hk]; rfl
    · refine r_aload_n (pc := 9) C dX1_answer_9 rfl ?_
      refine r_aload_n (pc := 10) C dX1_answer_10 rfl ?_
      refine r_iload_n (pc := 11) C dX1_answer_11 rfl ?_
      refine r_iconst (pc := 12) C (0) dX1_answer_12 (by decide) ?_
      refine q_vIf (pc := 13) C kX1_22 dX1_answer_13 (c_size3 (t := 0) (d := 0) (w := w) ha h47 h48 (by omega) (by omega) (by simp [u2, nI_0]) (by rw [u2_row h47]; exact hk)) (s_47 _) rfl rfl (Nat.le_of_ble_eq_true rfl) (by decide) ⟨by decide, by decide⟩ ?_
      refine q_iret (pc := 16) C dX1_answer_16 rfl ?_
      refine ⟨?_, ?_⟩
      · unfold askV; rw [if_pos c6, hk, u2_row h47]; rfl
      · unfold askV; rw [if_pos c6, hk]; rfl
  · skip
    refine r_aload_n (pc := 0) C dX1_answer_0 rfl ?_
    refine r_iconst (pc := 1) C (0) dX1_answer_1 (by decide) ?_
    refine r_put (pc := 2) C fX1_18 ftX1_1 dX1_answer_2 (s_47 _) rfl ?_
    refine r_iload_n (pc := 5) C dX1_answer_5 rfl ?_
    refine r_if_ne (pc := 6) C 17 dX1_answer_6 (by decide) (fun c6 => ?_) (fun c6 => ?_)
    · refine r_aload_n (pc := 17) C dX1_answer_17 rfl ?_
      refine r_aload_n (pc := 18) C dX1_answer_18 rfl ?_
      refine r_iload_n (pc := 19) C dX1_answer_19 rfl ?_
      refine r_iconst (pc := 20) C (0) dX1_answer_20 (by decide) ?_
      refine q_vIf (pc := 21) C kX1_26 dX1_answer_21 (c_mark4 (t := 0) (d := 0) (w := w) ha h47 h48 (by omega) (by omega) (by simp [u2, nI_0]) (by rw [u2_row h47]; exact hk)) (s_47 _) rfl rfl (Nat.le_of_ble_eq_true rfl) (by decide) ⟨by decide, by decide⟩ ?_
      refine q_iret (pc := 24) C dX1_answer_24 rfl ?_
      refine ⟨?_, ?_⟩
      · unfold askV; rw [if_neg c6, hk, u2_row h47]; rfl
      · unfold askV; rw [if_neg c6, hk]; rfl
    · refine r_aload_n (pc := 9) C dX1_answer_9 rfl ?_
      refine r_aload_n (pc := 10) C dX1_answer_10 rfl ?_
      refine r_iload_n (pc := 11) C dX1_answer_11 rfl ?_
      refine r_iconst (pc := 12) C (0) dX1_answer_12 (by decide) ?_
      refine q_vIf (pc := 13) C kX1_22 dX1_answer_13 (c_size4 (t := 0) (d := 0) (w := w) ha h47 h48 (by omega) (by omega) (by simp [u2, nI_0]) (by rw [u2_row h47]; exact hk)) (s_47 _) rfl rfl (Nat.le_of_ble_eq_true rfl) (by decide) ⟨by decide, by decide⟩ ?_
      refine q_iret (pc := 16) C dX1_answer_16 rfl ?_
      refine ⟨?_, ?_⟩
      · unfold askV; rw [if_pos c6, hk, u2_row h47]; rfl
      · unfold askV; rw [if_pos c6, hk]; rfl
  · skip
    refine r_aload_n (pc := 0) C dX1_answer_0 rfl ?_
    refine r_iconst (pc := 1) C (0) dX1_answer_1 (by decide) ?_
    refine r_put (pc := 2) C fX1_18 ftX1_1 dX1_answer_2 (s_47 _) rfl ?_
    refine r_iload_n (pc := 5) C dX1_answer_5 rfl ?_
    refine r_if_ne (pc := 6) C 17 dX1_answer_6 (by decide) (fun c6 => ?_) (fun c6 => ?_)
    · refine r_aload_n (pc := 17) C dX1_answer_17 rfl ?_
      refine r_aload_n (pc := 18) C dX1_answer_18 rfl ?_
      refine r_iload_n (pc := 19) C dX1_answer_19 rfl ?_
      refine r_iconst (pc := 20) C (0) dX1_answer_20 (by decide) ?_
      refine q_vIf (pc := 21) C kX1_26 dX1_answer_21 (c_mark5 (t := 0) (d := 0) (w := w) ha h47 h48 (by omega) (by omega) (by simp [u2, nI_0]) (by rw [u2_row h47]; exact hk)) (s_47 _) rfl rfl (Nat.le_of_ble_eq_true rfl) (by decide) ⟨by decide, by decide⟩ ?_
      refine q_iret (pc := 24) C dX1_answer_24 rfl ?_
      refine ⟨?_, ?_⟩
      · unfold askV; rw [if_neg c6, hk, u2_row h47]; rfl
      · unfold askV; rw [if_neg c6, hk]; rfl
    · refine r_aload_n (pc := 9) C dX1_answer_9 rfl ?_
      refine r_aload_n (pc := 10) C dX1_answer_10 rfl ?_
      refine r_iload_n (pc := 11) C dX1_answer_11 rfl ?_
      refine r_iconst (pc := 12) C (0) dX1_answer_12 (by decide) ?_
      refine q_vIf (pc := 13) C kX1_22 dX1_answer_13 (c_size5 (t := 0) (d := 0) (w := w) ha h47 h48 (by omega) (by omega) (by simp [u2, nI_0]) (by rw [u2_row h47]; exact hk)) (s_47 _) rfl rfl (Nat.le_of_ble_eq_true rfl) (by decide) ⟨by decide, by decide⟩ ?_
      refine q_iret (pc := 16) C dX1_answer_16 rfl ?_
      refine ⟨?_, ?_⟩
      · unfold askV; rw [if_pos c6, hk, u2_row h47]; rfl
      · unfold askV; rw [if_pos c6, hk]; rfl
theorem trR_st : ∀ (l : List Int32) {f : MM} {t : Nat}, trR f t l 89 = f 89 := by
  intro l
  induction l with
  | nil => intro f t; rfl
  | cons b l ih => intro f t; exact ih.trans trF_st
theorem szO_V {f : MM} {t w : Nat} : szO f t w = ((soV2 (f 89 (14 + w)) (f 89 (20 + w))).1, trR f t (soV2 (f 89 (14 + w)) (f 89 (20 + w))).2) := by
  unfold szO soV2
  split <;> rfl
theorem mkO_V {f : MM} {t w : Nat} : mkO f t w = ((mkV (f 89 (14 + w)) (f 89 (20 + w)) (f 89 (32 + w)) (nI w)).1, trR f t (mkV (f 89 (14 + w)) (f 89 (20 + w)) (f 89 (32 + w)) (nI w)).2) := by
  unfold mkO mkV
  split
  · rfl
  · split
    · rfl
    · split
      · rfl
      · rw [szO_V, trF_st, trF_st]; rfl
theorem ssO_V {f : MM} {t w : Nat} : ssO f t w = ((ssV (f 89 (14 + w)) (f 89 (20 + w)) (f 89 (32 + w)) (nI w)).1, trR f t (ssV (f 89 (14 + w)) (f 89 (20 + w)) (f 89 (32 + w)) (nI w)).2) := by
  unfold ssO ssV
  rw [mkO_V, trF_st, trF_st]; rfl
theorem szA_V {f : MM} {t w : Nat} : szA f t w = ((szV (f 89 (14 + w)) (f 89 (20 + w)) (f 89 (32 + w)) (nI w)).1, trR f t (szV (f 89 (14 + w)) (f 89 (20 + w)) (f 89 (32 + w)) (nI w)).2) := by
  unfold szA szV
  split
  · rw [ssO_V, trF_st]; rfl
  · split
    · exact ssO_V
    · exact szO_V
theorem askV_len {k pa ti nu q : Int32} : (askV k pa ti nu q).2.length ≤ 8 := by
  unfold askV szV ssV mkV soV2
  repeat' split
  all_goals simp
