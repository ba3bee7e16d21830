/-! THE LAW: its loop -/
theorem ts0_30 (x : Int32) : (x.toInt < 0 ∨ 30 < x.toInt) ∨ x = 0 ∨ x = 1 ∨ x = 2 ∨ x = 3 ∨ x = 4 ∨ x = 5 ∨ x = 6 ∨ x = 7 ∨ x = 8 ∨ x = 9 ∨ x = 10 ∨ x = 11 ∨ x = 12 ∨ x = 13 ∨ x = 14 ∨ x = 15 ∨ x = 16 ∨ x = 17 ∨ x = 18 ∨ x = 19 ∨ x = 20 ∨ x = 21 ∨ x = 22 ∨ x = 23 ∨ x = 24 ∨ x = 25 ∨ x = 26 ∨ x = 27 ∨ x = 28 ∨ x = 29 ∨ x = 30 := by
  rcases Int.lt_or_le x.toInt 0 with h | h
  · exact Or.inl (Or.inl h)
  · rcases Int.lt_or_le 30 x.toInt with g | g
    · exact Or.inl (Or.inr g)
    · refine Or.inr ?_
      have key : ∀ v : Int32, x.toInt = v.toInt → x = v := fun v e => Int32.toInt_inj.mp e
      obtain ⟨n, hn⟩ : ∃ n : Nat, x.toInt = 0 + n := ⟨(x.toInt - 0).toNat, by omega⟩
      have hn2 : n < 31 := by omega
      match n, hn2, hn with
      | 0, _, hn => exact Or.inl (key 0 hn)
      | 1, _, hn => exact Or.inr (Or.inl (key 1 hn))
      | 2, _, hn => exact Or.inr (Or.inr (Or.inl (key 2 hn)))
      | 3, _, hn => exact Or.inr (Or.inr (Or.inr (Or.inl (key 3 hn))))
      | 4, _, hn => exact Or.inr (Or.inr (Or.inr (Or.inr (Or.inl (key 4 hn)))))
      | 5, _, hn => exact Or.inr (Or.inr (Or.inr (Or.inr (Or.inr (Or.inl (key 5 hn))))))
      | 6, _, hn => exact Or.inr (Or.inr (Or.inr (Or.inr (Or.inr (Or.inr (Or.inl (key 6 hn)))))))
      | 7, _, hn => exact Or.inr (Or.inr (Or.inr (Or.inr (Or.inr (Or.inr (Or.inr (Or.inl (key 7 hn))))))))
      | 8, _, hn => exact Or.inr (Or.inr (Or.inr (Or.inr (Or.inr (Or.inr (Or.inr (Or.inr (Or.inl (key 8 hn)))))))))
      | 9, _, hn => exact Or.inr (Or.inr (Or.inr (Or.inr (Or.inr (Or.inr (Or.inr (Or.inr (Or.inr (Or.inl (key 9 hn))))))))))
      | 10, _, hn => exact Or.inr (Or.inr (Or.inr (Or.inr (Or.inr (Or.inr (Or.inr (Or.inr (Or.inr (Or.inr (Or.inl (key 10 hn)))))))))))
      | 11, _, hn => exact Or.inr (Or.inr (Or.inr (Or.inr (Or.inr (Or.inr (Or.inr (Or.inr (Or.inr (Or.inr (Or.inr (Or.inl (key 11 hn))))))))))))
      | 12, _, hn => exact Or.inr (Or.inr (Or.inr (Or.inr (Or.inr (Or.inr (Or.inr (Or.inr (Or.inr (Or.inr (Or.inr (Or.inr (Or.inl (key 12 hn)))))))))))))
      | 13, _, hn => exact Or.inr (Or.inr (Or.inr (Or.inr (Or.inr (Or.inr (Or.inr (Or.inr (Or.inr (Or.inr (Or.inr (Or.inr (Or.inr (Or.inl (key 13 hn))))))))))))))
      | 14, _, hn => exact Or.inr (Or.inr (Or.inr (Or.inr (Or.inr (Or.inr (Or.inr (Or.inr (Or.inr (Or.inr (Or.inr (Or.inr (Or.inr (Or.inr (Or.inl (key 14 hn)))))))))))))))
      | 15, _, hn => exact Or.inr (Or.inr (Or.inr (Or.inr (Or.inr (Or.inr (Or.inr (Or.inr (Or.inr (Or.inr (Or.inr (Or.inr (Or.inr (Or.inr (Or.inr (Or.inl (key 15 hn))))))))))))))))
      | 16, _, hn => exact Or.inr (Or.inr (Or.inr (Or.inr (Or.inr (Or.inr (Or.inr (Or.inr (Or.inr (Or.inr (Or.inr (Or.inr (Or.inr (Or.inr (Or.inr (Or.inr (Or.inl (key 16 hn)))))))))))))))))
      | 17, _, hn => exact Or.inr (Or.inr (Or.inr (Or.inr (Or.inr (Or.inr (Or.inr (Or.inr (Or.inr (Or.inr (Or.inr (Or.inr (Or.inr (Or.inr (Or.inr (Or.inr (Or.inr (Or.inl (key 17 hn))))))))))))))))))
      | 18, _, hn => exact Or.inr (Or.inr (Or.inr (Or.inr (Or.inr (Or.inr (Or.inr (Or.inr (Or.inr (Or.inr (Or.inr (Or.inr (Or.inr (Or.inr (Or.inr (Or.inr (Or.inr (Or.inr (Or.inl (key 18 hn)))))))))))))))))))
      | 19, _, hn => exact Or.inr (Or.inr (Or.inr (Or.inr (Or.inr (Or.inr (Or.inr (Or.inr (Or.inr (Or.inr (Or.inr (Or.inr (Or.inr (Or.inr (Or.inr (Or.inr (Or.inr (Or.inr (Or.inr (Or.inl (key 19 hn))))))))))))))))))))
      | 20, _, hn => exact Or.inr (Or.inr (Or.inr (Or.inr (Or.inr (Or.inr (Or.inr (Or.inr (Or.inr (Or.inr (Or.inr (Or.inr (Or.inr (Or.inr (Or.inr (Or.inr (Or.inr (Or.inr (Or.inr (Or.inr (Or.inl (key 20 hn)))))))))))))))))))))
      | 21, _, hn => exact Or.inr (Or.inr (Or.inr (Or.inr (Or.inr (Or.inr (Or.inr (Or.inr (Or.inr (Or.inr (Or.inr (Or.inr (Or.inr (Or.inr (Or.inr (Or.inr (Or.inr (Or.inr (Or.inr (Or.inr (Or.inr (Or.inl (key 21 hn))))))))))))))))))))))
      | 22, _, hn => exact Or.inr (Or.inr (Or.inr (Or.inr (Or.inr (Or.inr (Or.inr (Or.inr (Or.inr (Or.inr (Or.inr (Or.inr (Or.inr (Or.inr (Or.inr (Or.inr (Or.inr (Or.inr (Or.inr (Or.inr (Or.inr (Or.inr (Or.inl (key 22 hn)))))))))))))))))))))))
      | 23, _, hn => exact Or.inr (Or.inr (Or.inr (Or.inr (Or.inr (Or.inr (Or.inr (Or.inr (Or.inr (Or.inr (Or.inr (Or.inr (Or.inr (Or.inr (Or.inr (Or.inr (Or.inr (Or.inr (Or.inr (Or.inr (Or.inr (Or.inr (Or.inr (Or.inl (key 23 hn))))))))))))))))))))))))
      | 24, _, hn => exact Or.inr (Or.inr (Or.inr (Or.inr (Or.inr (Or.inr (Or.inr (Or.inr (Or.inr (Or.inr (Or.inr (Or.inr (Or.inr (Or.inr (Or.inr (Or.inr (Or.inr (Or.inr (Or.inr (Or.inr (Or.inr (Or.inr (Or.inr (Or.inr (Or.inl (key 24 hn)))))))))))))))))))))))))
      | 25, _, hn => exact Or.inr (Or.inr (Or.inr (Or.inr (Or.inr (Or.inr (Or.inr (Or.inr (Or.inr (Or.inr (Or.inr (Or.inr (Or.inr (Or.inr (Or.inr (Or.inr (Or.inr (Or.inr (Or.inr (Or.inr (Or.inr (Or.inr (Or.inr (Or.inr (Or.inr (Or.inl (key 25 hn))))))))))))))))))))))))))
      | 26, _, hn => exact Or.inr (Or.inr (Or.inr (Or.inr (Or.inr (Or.inr (Or.inr (Or.inr (Or.inr (Or.inr (Or.inr (Or.inr (Or.inr (Or.inr (Or.inr (Or.inr (Or.inr (Or.inr (Or.inr (Or.inr (Or.inr (Or.inr (Or.inr (Or.inr (Or.inr (Or.inr (Or.inl (key 26 hn)))))))))))))))))))))))))))
      | 27, _, hn => exact Or.inr (Or.inr (Or.inr (Or.inr (Or.inr (Or.inr (Or.inr (Or.inr (Or.inr (Or.inr (Or.inr (Or.inr (Or.inr (Or.inr (Or.inr (Or.inr (Or.inr (Or.inr (Or.inr (Or.inr (Or.inr (Or.inr (Or.inr (Or.inr (Or.inr (Or.inr (Or.inr (Or.inl (key 27 hn))))))))))))))))))))))))))))
      | 28, _, hn => exact Or.inr (Or.inr (Or.inr (Or.inr (Or.inr (Or.inr (Or.inr (Or.inr (Or.inr (Or.inr (Or.inr (Or.inr (Or.inr (Or.inr (Or.inr (Or.inr (Or.inr (Or.inr (Or.inr (Or.inr (Or.inr (Or.inr (Or.inr (Or.inr (Or.inr (Or.inr (Or.inr (Or.inr (Or.inl (key 28 hn)))))))))))))))))))))))))))))
      | 29, _, hn => exact Or.inr (Or.inr (Or.inr (Or.inr (Or.inr (Or.inr (Or.inr (Or.inr (Or.inr (Or.inr (Or.inr (Or.inr (Or.inr (Or.inr (Or.inr (Or.inr (Or.inr (Or.inr (Or.inr (Or.inr (Or.inr (Or.inr (Or.inr (Or.inr (Or.inr (Or.inr (Or.inr (Or.inr (Or.inr (Or.inl (key 29 hn))))))))))))))))))))))))))))))
      | 30, _, hn => exact Or.inr (Or.inr (Or.inr (Or.inr (Or.inr (Or.inr (Or.inr (Or.inr (Or.inr (Or.inr (Or.inr (Or.inr (Or.inr (Or.inr (Or.inr (Or.inr (Or.inr (Or.inr (Or.inr (Or.inr (Or.inr (Or.inr (Or.inr (Or.inr (Or.inr (Or.inr (Or.inr (Or.inr (Or.inr (Or.inr ((key 30 hn)))))))))))))))))))))))))))))))
      | n + 31, hn2, _ => exact absurd hn2 (by omega)
theorem sub6 {SL i : Nat} (h : SL ≤ 384) (hi : i ≤ 1000) : ¬ (nI SL - 6 < nI i) ↔ i + 6 ≤ SL := by
  have e : (nI SL).toInt = SL := nI_toInt (by omega)
  have e2 : (nI i).toInt = i := nI_toInt (by omega)
  have z : (6 : Int32).toInt = 6 := by decide
  rw [ti_lt, ti_sub (by omega) (by omega), e, e2, z]
  omega
set_option maxRecDepth 100000 in
set_option maxHeartbeats 4000000 in
theorem law_loop {X : XT} {G : GG} {nm : String} {b SL : Nat} {xs : Nat → Int32} {Q : State → Prop} (C : Cx X G (mLaw nm) 1311 600000 7302250 0) (S : Scr X G b SL xs) (K : ∀ (kn : Nat) (f : MM) (cs sl i : Nat), cs ≤ 600000 → sl ≤ 7302250 → Vw X G (mLaw nm).2.2.2.1 cs sl Q (NN kn) (shF kn) f 1001 [some (.ref b), some (.ref (G.1 + 0)), some (.ref (G.1 + 85)), some (.int (nI i))] []) : ∀ (m i kn cs sl : Nat) (f : MM), i ≤ 1000 → SL < i + 6 * m + 6 → cs + 10 * m ≤ 600000 → sl + 67 * m ≤ 7302250 → Inv kn f → Vw X G (mLaw nm).2.2.2.1 cs sl Q (NN kn) (shF kn) f 18 [some (.ref b), some (.ref (G.1 + 0)), some (.ref (G.1 + 85)), some (.int (nI i))] [] := by
  intro m
  induction m with
  | zero =>
    intro i kn cs sl f hi hm h1 h2 I
    refine r_iload_n (pc := 18) C dL_law_18 rfl ?_
    refine r_aload_n (pc := 19) C dL_law_19 rfl ?_
    refine r_slen (pc := 20) C S dL_law_20 ?_
    refine r_bipush (pc := 21) C (6) dL_law_21 (by decide) ?_
    refine r_isub (pc := 23) C dL_law_23 ?_
    refine r_icmp_gt (pc := 24) C 1001 dL_law_24 (by decide) (fun c24 => ?_) (fun c24 => ?_)
    · exact K kn f cs sl i (by omega) (by omega)
    · exact absurd ((sub6 S.2.2.2 hi).mp c24) (by omega)
  | succ m ih =>
    intro i kn cs sl f hi hm h1 h2 I
    refine r_iload_n (pc := 18) C dL_law_18 rfl ?_
    refine r_aload_n (pc := 19) C dL_law_19 rfl ?_
    refine r_slen (pc := 20) C S dL_law_20 ?_
    refine r_bipush (pc := 21) C (6) dL_law_21 (by decide) ?_
    refine r_isub (pc := 23) C dL_law_23 ?_
    refine r_icmp_gt (pc := 24) C 1001 dL_law_24 (by decide) (fun c24 => ?_) (fun c24 => ?_)
    · exact K kn f cs sl i (by omega) (by omega)
    · have hi6 := (sub6 S.2.2.2 hi).mp c24
      have s384 := S.2.2.2
      have hc : cs + 10 ≤ 600000 ∧ sl + 67 ≤ 7302250 := ⟨by omega, by omega⟩
      have K2 : ∀ (kn' : Nat) (f' : MM), Inv kn' f' → Vw X G (mLaw nm).2.2.2.1 (cs + 10) (sl + 67) Q (NN kn') (shF kn') f' 995 [some (.ref b), some (.ref (G.1 + 0)), some (.ref (G.1 + 85)), some (.int (nI i))] [] := fun kn' f' I2 => by
        refine r_iinc (pc := 995) C (nI (i + 6)) dL_law_995 rfl (nI_add i 6) (Nat.le_of_ble_eq_true rfl) rfl ?_
        refine r_goto (pc := 998) C 18 dL_law_998 (by decide) ?_
        exact ih (i + 6) kn' (cs + 10) (sl + 67) f' (by omega) (by omega) (by omega) (by omega) I2
      refine r_aload_n (pc := 27) C dL_law_27 rfl ?_
      refine r_iload_n (pc := 28) C dL_law_28 rfl ?_
      refine r_sld (pc := 29) C S i rfl (by omega) dL_law_29 ?_
      refine r_bipush (pc := 30) C (31) dL_law_30 (by decide) ?_
      refine r_iand (pc := 32) C dL_law_32 ?_
      refine r_top (fun x33 hx33 => ?_)
      rcases ts0_30 x33 with c33 | c33 | c33 | c33 | c33 | c33 | c33 | c33 | c33 | c33 | c33 | c33 | c33 | c33 | c33 | c33 | c33 | c33 | c33 | c33 | c33 | c33 | c33 | c33 | c33 | c33 | c33 | c33 | c33 | c33 | c33 | c33
      · refine r_tableOut (pc := 33) C 995 dL_law_33 c33 (by decide) ?_
        exact v_wid (by omega) (by omega) (K2 kn f I)
      · refine r_tableEq (pc := 33) C 172 (0) c33 dL_law_33 (by decide) (by decide) rfl (by decide) ?_
        exact st_row C S hi6 hc I K2
      · refine r_tableEq (pc := 33) C 215 (1) c33 dL_law_33 (by decide) (by decide) rfl (by decide) ?_
        exact st_set C S hi6 hc I K2
      · refine r_tableEq (pc := 33) C 258 (2) c33 dL_law_33 (by decide) (by decide) rfl (by decide) ?_
        exact st_copy C S hi6 hc I K2
      · refine r_tableEq (pc := 33) C 321 (3) c33 dL_law_33 (by decide) (by decide) rfl (by decide) ?_
        exact st_drop C S hi6 hc I K2
      · refine r_tableEq (pc := 33) C 344 (4) c33 dL_law_33 (by decide) (by decide) rfl (by decide) ?_
        exact st_feed C S hi6 hc I K2
      · refine r_tableEq (pc := 33) C 367 (5) c33 dL_law_33 (by decide) (by decide) rfl (by decide) ?_
        exact st_way C S hi6 hc I K2
      · refine r_tableEq (pc := 33) C 380 (6) c33 dL_law_33 (by decide) (by decide) rfl (by decide) ?_
        exact st_fault C S hi6 hc I K2
      · refine r_tableEq (pc := 33) C 393 (7) c33 dL_law_33 (by decide) (by decide) rfl (by decide) ?_
        exact st_go C S hi6 hc I K2
      · refine r_tableEq (pc := 33) C 406 (8) c33 dL_law_33 (by decide) (by decide) rfl (by decide) ?_
        exact st_rule C S hi6 hc I K2
      · refine r_tableEq (pc := 33) C 439 (9) c33 dL_law_33 (by decide) (by decide) rfl (by decide) ?_
        exact st_give C S hi6 hc I K2
      · refine r_tableEq (pc := 33) C 472 (10) c33 dL_law_33 (by decide) (by decide) rfl (by decide) ?_
        exact st_undo C S hi6 hc I K2
      · refine r_tableEq (pc := 33) C 485 (11) c33 dL_law_33 (by decide) (by decide) rfl (by decide) ?_
        exact st_walker C S hi6 hc I K2
      · refine r_tableEq (pc := 33) C 518 (12) c33 dL_law_33 (by decide) (by decide) rfl (by decide) ?_
        exact st_leg C S hi6 hc I K2
      · refine r_tableEq (pc := 33) C 541 (13) c33 dL_law_33 (by decide) (by decide) rfl (by decide) ?_
        exact st_mends C S hi6 hc I K2
      · refine r_tableEq (pc := 33) C 564 (14) c33 dL_law_33 (by decide) (by decide) rfl (by decide) ?_
        exact st_there C S hi6 hc I K2
      · refine r_tableEq (pc := 33) C 597 (15) c33 dL_law_33 (by decide) (by decide) rfl (by decide) ?_
        exact st_allThere C S hi6 hc I K2
      · refine r_tableEq (pc := 33) C 610 (16) c33 dL_law_33 (by decide) (by decide) rfl (by decide) ?_
        exact st_soonest C S hi6 hc I K2
      · refine r_tableEq (pc := 33) C 633 (17) c33 dL_law_33 (by decide) (by decide) rfl (by decide) ?_
        exact st_loses C S hi6 hc I K2
      · refine r_tableEq (pc := 33) C 656 (18) c33 dL_law_33 (by decide) (by decide) rfl (by decide) ?_
        exact st_fair C S hi6 hc I K2
      · refine r_tableEq (pc := 33) C 679 (19) c33 dL_law_33 (by decide) (by decide) rfl (by decide) ?_
        exact st_sacks C S hi6 hc I K2
      · refine r_tableEq (pc := 33) C 702 (20) c33 dL_law_33 (by decide) (by decide) rfl (by decide) ?_
        exact st_parties C S hi6 hc I K2
      · refine r_tableEq (pc := 33) C 725 (21) c33 dL_law_33 (by decide) (by decide) rfl (by decide) ?_
        exact st_turn C S hi6 hc I K2
      · refine r_tableEq (pc := 33) C 738 (22) c33 dL_law_33 (by decide) (by decide) rfl (by decide) ?_
        exact st_fits C S hi6 hc I K2
      · refine r_tableEq (pc := 33) C 801 (23) c33 dL_law_33 (by decide) (by decide) rfl (by decide) ?_
        exact st_image C S hi6 hc I K2
      · refine r_tableEq (pc := 33) C 824 (24) c33 dL_law_33 (by decide) (by decide) rfl (by decide) ?_
        exact st_restore C S hi6 hc I K2
      · refine r_tableEq (pc := 33) C 847 (25) c33 dL_law_33 (by decide) (by decide) rfl (by decide) ?_
        exact st_kind C S hi6 hc I K2
      · refine r_tableEq (pc := 33) C 870 (26) c33 dL_law_33 (by decide) (by decide) rfl (by decide) ?_
        exact st_as C S hi6 hc I K2
      · refine r_tableEq (pc := 33) C 903 (27) c33 dL_law_33 (by decide) (by decide) rfl (by decide) ?_
        exact st_ask C S hi6 hc I K2
      · refine r_tableEq (pc := 33) C 936 (28) c33 dL_law_33 (by decide) (by decide) rfl (by decide) ?_
        exact st_trace C S hi6 hc I K2
      · refine r_tableEq (pc := 33) C 959 (29) c33 dL_law_33 (by decide) (by decide) rfl (by decide) ?_
        exact st_count C S hi6 hc I K2
      · refine r_tableEq (pc := 33) C 982 (30) c33 dL_law_33 (by decide) (by decide) rfl (by decide) ?_
        exact st_status C S hi6 hc I K2
theorem inv_0 : Inv 0 fZ := by
  have z : ∀ k, ¬ (k = 6 ∨ k = 16 ∨ k = 28 ∨ k = 36 ∨ k = 67 ∨ k = 77) → (k < 49 ∨ 65 ≤ k) → k ≠ 87 → fZ k = fun _ => 0 := fun k h1 h2 h3 => fZ_0 h1 h2 h3
  have zn : (0 : Int32) = nI 0 := nI_0.symm
  refine ⟨fun r hr => Or.inl ⟨?_, ?_⟩, ?_, ⟨?_, 0, by omega, ?_, ?_⟩, ?_, ⟨0, 0, 0, ⟨by omega, by omega, by omega⟩, ⟨?_, ?_, ?_⟩, ⟨?_, fun w hw => by omega, fun w hw => by omega, fun w hw => by omega⟩, ?_, ?_, fun j hj => by omega, ⟨?_, ?_, ?_, ?_⟩, ?_, ?_⟩, ⟨?_, Or.inl ?_⟩, ⟨?_, ?_, fun w hw => ?_⟩, fun k hk => ⟨?_, Or.inl ?_⟩, ⟨0, 0, ⟨by omega, by omega, by omega⟩, fun _ => ⟨by omega, by omega⟩, ⟨?_, ?_, ?_⟩, fun q => by omega, fun i hi => by omega⟩, ⟨0, by omega, ?_, ?_, fun i hi => by omega⟩, fun _ => ?_⟩
  · unfold fZ
    rw [if_neg (by omega), if_pos (by omega)]
  · unfold fZ
    rw [if_neg (by omega), if_neg (by omega), if_pos (by omega)]
  · rw [z 0 (by decide) (by decide) (by decide), z 85 (by decide) (by decide) (by decide)]
  · rw [z 3 (by decide) (by decide) (by decide), z 91 (by decide) (by decide) (by decide)]
  · rw [z 2 (by decide) (by decide) (by decide), zn]
  · rw [z 85 (by decide) (by decide) (by decide), zn]
  · rw [z 2 (by decide) (by decide) (by decide), z 85 (by decide) (by decide) (by decide)]
  · rw [z 89 (by decide) (by decide) (by decide), zn]
  · rw [z 89 (by decide) (by decide) (by decide), zn]
  · rw [z 89 (by decide) (by decide) (by decide), zn]
  · rfl
  · rfl
  · rw [z 4 (by decide) (by decide) (by decide), zn]
  · rw [z 4 (by decide) (by decide) (by decide), zn]
  · rw [z 4 (by decide) (by decide) (by decide), z 89 (by decide) (by decide) (by decide)]
  · rw [z 4 (by decide) (by decide) (by decide), z 89 (by decide) (by decide) (by decide)]
  · rw [z 4 (by decide) (by decide) (by decide), z 89 (by decide) (by decide) (by decide)]
  · rw [z 89 (by decide) (by decide) (by decide)]; decide
  · rw [z 89 (by decide) (by decide) (by decide)]; decide
  · rw [z 4 (by decide) (by decide) (by decide), z 85 (by decide) (by decide) (by decide)]
  · rw [z 4 (by decide) (by decide) (by decide)]
  · rw [z 14 (by decide) (by decide) (by decide)]
  · rfl
  · rw [z (18 + w) (by omega) (by omega) (by omega)]
    exact ⟨rfl, rfl, rfl⟩
  · rw [z 99 (by decide) (by decide) (by decide), z (65 + 10 * k) (by omega) (by omega) (by omega)]
  · rw [z 99 (by decide) (by decide) (by decide)]
  · rw [z 25 (by decide) (by decide) (by decide), zn]
  · rw [z 25 (by decide) (by decide) (by decide), zn]
  · rw [z 85 (by decide) (by decide) (by decide), zn]
  · rw [z 47 (by decide) (by decide) (by decide), zn]
  · rw [z 85 (by decide) (by decide) (by decide), zn]
  · rfl
theorem room_mono {s : State} {pl : Platform} {r r' : Room} (hf : r.frames ≤ r'.frames) (hl : r.locals ≤ r'.locals) (hc : r.cells ≤ r'.cells) (hs : r.slots ≤ r'.slots) (h : s.hasRoom pl r' = true) : s.hasRoom pl r = true := by
  unfold State.hasRoom at h ⊢
  simp only [Bool.and_eq_true, decide_eq_true_eq] at h ⊢
  obtain ⟨⟨⟨⟨h1, h2, h3, h4, h5, h6⟩, h7⟩, h8⟩, h9⟩ := h
  exact ⟨⟨⟨⟨by omega, by omega, by omega, by omega, by omega, h6⟩, by omega⟩, by omega⟩, h9⟩
theorem W_room {p : Program} {l : Launch} {e : Env} {R R' : Room} {s : State} {m : MethodId} {args : Array Value} {below : List Frame} {meth : Method} {c : Code} {H : Heap} {locs : List Loc} {cells slots : Nat} {Q : State → Prop} {g : JFrame} (hf : R'.frames ≤ R.frames) (hl : R'.locals ≤ R.locals) (hc : R'.cells ≤ R.cells) (hs : R'.slots ≤ R.slots) (K : W p l e R' s m args below meth c H locs cells slots Q g) : W p l e R s m args below meth c H locs cells slots Q g := fun T hT X =>
  K T hT ⟨X.admits, X.cas, X.clock, X.frames, room_mono hf hl hc hs X.room, X.hears, X.method, X.code, X.here, X.tail, X.warmed, X.limits, X.bytes, X.same⟩
theorem arr_p {s : State} {A : Array Value} {ty : FieldType} (h : (Cond.arrayClass ty).before A s = true) : ∃ c, ArrOfT s c ty ∧ s.vm.findClass ("[" ++ ty.toString) = some c := by
  obtain ⟨c, k, comp, h1, h2, h3⟩ := Cond.arrayClass_spec h
  exact ⟨c, fun n z => ⟨fun q hq => (by cases hq), k, h2, comp, h3⟩, h1⟩
theorem arr_o {s : State} {A : Array Value} {C : String} (h : (Cond.arrayOver (.object C)).before A s = true) : ∃ c, ArrOfT s c (.object C) ∧ va_RA s c (.object C) := by
  obtain ⟨comp, c, k, h1, h2, h3, h4, h5⟩ := Cond.arrayOver_spec h
  exact ⟨c, fun n z => ⟨fun q hq => (by cases hq), k, h3, comp, h4⟩, k, comp, h3, h4, h1, h5⟩
theorem tab_0 {s : State} {b : Nat} (hgv : (Jvm.Cond.and given_1 narrow_1).before #[Value.ref b] s = true) (hts : ∀ w ∈ lw_tbl, w.before #[Value.ref b] s = true) : ∃ t : Nat, va_Z RX1 (vz_tabN 0) "[I" (.ref t) (fun q => s.heap.size ≤ q) s s.heap ∧ va_T .int t 6 (fun j => .int (vz_tab 0 j)) (fun q => s.heap.size ≤ q) s s.heap := by
  have hs := flat_of_before _ hgv
  have hA : ∀ a : Nat, a < s.heap.size → ¬ (fun q => s.heap.size ≤ q) a := fun a ha => Nat.not_le.mpr ha
  have q1 : (Cond.arrayOf (.static RX1 "KIND_ABOVE" "[I") .int).before #[Value.ref b] s = true := hs _ (by decide +kernel)
  have q2 : (Cond.eq (.length (.static RX1 "KIND_ABOVE" "[I")) (.int 6)).before #[Value.ref b] s = true := hs _ (by decide +kernel)
  have e0 : (Cond.eq (.elem (.static RX1 "KIND_ABOVE" "[I") (.int 0)) (.int (-1))).before #[Value.ref b] s = true := hs _ (by decide +kernel)
  have e1 : (Cond.eq (.elem (.static RX1 "KIND_ABOVE" "[I") (.int 1)) (.int (0))).before #[Value.ref b] s = true := hs _ (by decide +kernel)
  have e2 : (Cond.eq (.elem (.static RX1 "KIND_ABOVE" "[I") (.int 2)) (.int (1))).before #[Value.ref b] s = true := hs _ (by decide +kernel)
  have e3 : (Cond.eq (.elem (.static RX1 "KIND_ABOVE" "[I") (.int 3)) (.int (1))).before #[Value.ref b] s = true := hs _ (by decide +kernel)
  have e4 : (Cond.eq (.elem (.static RX1 "KIND_ABOVE" "[I") (.int 4)) (.int (0))).before #[Value.ref b] s = true := hs _ (by decide +kernel)
  have e5 : (Cond.eq (.elem (.static RX1 "KIND_ABOVE" "[I") (.int 5)) (.int (4))).before #[Value.ref b] s = true := hs _ (by decide +kernel)
  obtain ⟨t, h1, h2⟩ := va_Tof (tm := (.static RX1 "KIND_ABOVE" "[I")) (ty := .int) (N := 6) (f := fun j => .int (vz_tab 0 j)) (by decide) q1 (va_eqt q2) (fun j hj => by
    have : j = 0 ∨ j = 1 ∨ j = 2 ∨ j = 3 ∨ j = 4 ∨ j = 5 := by omega
    rcases this with rfl | rfl | rfl | rfl | rfl | rfl
    · exact va_eqt e0
    · exact va_eqt e1
    · exact va_eqt e2
    · exact va_eqt e3
    · exact va_eqt e4
    · exact va_eqt e5) hA
  exact ⟨t, va_Zof (hts _ (List.mem_of_getElem? (i := 773) (by decide +kernel))) (hts _ (List.mem_of_getElem? (i := 104) (by decide +kernel))) h1 hA, h2⟩
theorem tab_1 {s : State} {b : Nat} (hgv : (Jvm.Cond.and given_1 narrow_1).before #[Value.ref b] s = true) (hts : ∀ w ∈ lw_tbl, w.before #[Value.ref b] s = true) : ∃ t : Nat, va_Z RX1 (vz_tabN 1) "[I" (.ref t) (fun q => s.heap.size ≤ q) s s.heap ∧ va_T .int t 6 (fun j => .int (vz_tab 1 j)) (fun q => s.heap.size ≤ q) s s.heap := by
  have hs := flat_of_before _ hgv
  have hA : ∀ a : Nat, a < s.heap.size → ¬ (fun q => s.heap.size ≤ q) a := fun a ha => Nat.not_le.mpr ha
  have q1 : (Cond.arrayOf (.static RX1 "SIZE_BODIES" "[I") .int).before #[Value.ref b] s = true := hs _ (by decide +kernel)
  have q2 : (Cond.eq (.length (.static RX1 "SIZE_BODIES" "[I")) (.int 6)).before #[Value.ref b] s = true := hs _ (by decide +kernel)
  have e0 : (Cond.eq (.elem (.static RX1 "SIZE_BODIES" "[I") (.int 0)) (.int (10))).before #[Value.ref b] s = true := hs _ (by decide +kernel)
  have e1 : (Cond.eq (.elem (.static RX1 "SIZE_BODIES" "[I") (.int 1)) (.int (11))).before #[Value.ref b] s = true := hs _ (by decide +kernel)
  have e2 : (Cond.eq (.elem (.static RX1 "SIZE_BODIES" "[I") (.int 2)) (.int (12))).before #[Value.ref b] s = true := hs _ (by decide +kernel)
  have e3 : (Cond.eq (.elem (.static RX1 "SIZE_BODIES" "[I") (.int 3)) (.int (0))).before #[Value.ref b] s = true := hs _ (by decide +kernel)
  have e4 : (Cond.eq (.elem (.static RX1 "SIZE_BODIES" "[I") (.int 4)) (.int (13))).before #[Value.ref b] s = true := hs _ (by decide +kernel)
  have e5 : (Cond.eq (.elem (.static RX1 "SIZE_BODIES" "[I") (.int 5)) (.int (14))).before #[Value.ref b] s = true := hs _ (by decide +kernel)
  obtain ⟨t, h1, h2⟩ := va_Tof (tm := (.static RX1 "SIZE_BODIES" "[I")) (ty := .int) (N := 6) (f := fun j => .int (vz_tab 1 j)) (by decide) q1 (va_eqt q2) (fun j hj => by
    have : j = 0 ∨ j = 1 ∨ j = 2 ∨ j = 3 ∨ j = 4 ∨ j = 5 := by omega
    rcases this with rfl | rfl | rfl | rfl | rfl | rfl
    · exact va_eqt e0
    · exact va_eqt e1
    · exact va_eqt e2
    · exact va_eqt e3
    · exact va_eqt e4
    · exact va_eqt e5) hA
  exact ⟨t, va_Zof (hts _ (List.mem_of_getElem? (i := 787) (by decide +kernel))) (hts _ (List.mem_of_getElem? (i := 104) (by decide +kernel))) h1 hA, h2⟩
theorem tab_2 {s : State} {b : Nat} (hgv : (Jvm.Cond.and given_1 narrow_1).before #[Value.ref b] s = true) (hts : ∀ w ∈ lw_tbl, w.before #[Value.ref b] s = true) : ∃ t : Nat, va_Z RX1 (vz_tabN 2) "[I" (.ref t) (fun q => s.heap.size ≤ q) s s.heap ∧ va_T .int t 6 (fun j => .int (vz_tab 2 j)) (fun q => s.heap.size ≤ q) s s.heap := by
  have hs := flat_of_before _ hgv
  have hA : ∀ a : Nat, a < s.heap.size → ¬ (fun q => s.heap.size ≤ q) a := fun a ha => Nat.not_le.mpr ha
  have q1 : (Cond.arrayOf (.static RX1 "MARK_BODIES" "[I") .int).before #[Value.ref b] s = true := hs _ (by decide +kernel)
  have q2 : (Cond.eq (.length (.static RX1 "MARK_BODIES" "[I")) (.int 6)).before #[Value.ref b] s = true := hs _ (by decide +kernel)
  have e0 : (Cond.eq (.elem (.static RX1 "MARK_BODIES" "[I") (.int 0)) (.int (20))).before #[Value.ref b] s = true := hs _ (by decide +kernel)
  have e1 : (Cond.eq (.elem (.static RX1 "MARK_BODIES" "[I") (.int 1)) (.int (21))).before #[Value.ref b] s = true := hs _ (by decide +kernel)
  have e2 : (Cond.eq (.elem (.static RX1 "MARK_BODIES" "[I") (.int 2)) (.int (24))).before #[Value.ref b] s = true := hs _ (by decide +kernel)
  have e3 : (Cond.eq (.elem (.static RX1 "MARK_BODIES" "[I") (.int 3)) (.int (22))).before #[Value.ref b] s = true := hs _ (by decide +kernel)
  have e4 : (Cond.eq (.elem (.static RX1 "MARK_BODIES" "[I") (.int 4)) (.int (23))).before #[Value.ref b] s = true := hs _ (by decide +kernel)
  have e5 : (Cond.eq (.elem (.static RX1 "MARK_BODIES" "[I") (.int 5)) (.int (0))).before #[Value.ref b] s = true := hs _ (by decide +kernel)
  obtain ⟨t, h1, h2⟩ := va_Tof (tm := (.static RX1 "MARK_BODIES" "[I")) (ty := .int) (N := 6) (f := fun j => .int (vz_tab 2 j)) (by decide) q1 (va_eqt q2) (fun j hj => by
    have : j = 0 ∨ j = 1 ∨ j = 2 ∨ j = 3 ∨ j = 4 ∨ j = 5 := by omega
    rcases this with rfl | rfl | rfl | rfl | rfl | rfl
    · exact va_eqt e0
    · exact va_eqt e1
    · exact va_eqt e2
    · exact va_eqt e3
    · exact va_eqt e4
    · exact va_eqt e5) hA
  exact ⟨t, va_Zof (hts _ (List.mem_of_getElem? (i := 804) (by decide +kernel))) (hts _ (List.mem_of_getElem? (i := 104) (by decide +kernel))) h1 hA, h2⟩
theorem kn_all {s : State} {b : Nat} (hts : ∀ w ∈ lw_tbl, w.before #[Value.ref b] s = true) : ∃ (dC : Nat → ClassId) (dI : Nat → Nat → Nat), ∀ (k : Nat) (q : vw_C), vwCl[k]? = some q → u_Kn s q.1 q.2.1 q.2.2 (dC k) (dI k) := by
  have inT : ∀ (ws : List Cond), (∀ w ∈ ws, w ∈ gw) → ∀ w ∈ ws, w ∈ lw_tbl := fun ws h w hw => (List.mem_filter.mp (h w hw)).1
  obtain ⟨c0, i0, k0⟩ := u_known (C := RX0) (T := TX0) (N := nfl 0) (n := nfl 0) hts (inT _ inG_X0) (hts (.instantiable RX0 (nfl 0)) (List.mem_of_getElem? (i := 279) (by decide +kernel)))
  obtain ⟨c1, i1, k1⟩ := u_known (C := RX1) (T := TX1) (N := nfl 1) (n := nfl 1) hts (inT _ inG_X1) (hts (.instantiable RX1 (nfl 1)) (List.mem_of_getElem? (i := 331) (by decide +kernel)))
  obtain ⟨c2, i2, k2⟩ := u_known (C := RX2) (T := TX2) (N := nfl 2) (n := nfl 2) hts (inT _ inG_X2) (hts (.instantiable RX2 (nfl 2)) (List.mem_of_getElem? (i := 297) (by decide +kernel)))
  obtain ⟨c3, i3, k3⟩ := u_known (C := RX3) (T := TX3) (N := nfl 3) (n := nfl 3) hts (inT _ inG_X3) (hts (.instantiable RX3 (nfl 3)) (List.mem_of_getElem? (i := 164) (by decide +kernel)))
  obtain ⟨c4, i4, k4⟩ := u_known (C := RX4) (T := TX4) (N := nfl 4) (n := nfl 4) hts (inT _ inG_X4) (hts (.instantiable RX4 (nfl 4)) (List.mem_of_getElem? (i := 120) (by decide +kernel)))
  obtain ⟨c5, i5, k5⟩ := u_known (C := RX5) (T := TX5) (N := nfl 5) (n := nfl 5) hts (inT _ inG_X5) (hts (.instantiable RX5 (nfl 5)) (List.mem_of_getElem? (i := 345) (by decide +kernel)))
  obtain ⟨c6, i6, k6⟩ := u_known (C := RX6) (T := TX6) (N := nfl 6) (n := nfl 6) hts (inT _ inG_X6) (hts (.instantiable RX6 (nfl 6)) (List.mem_of_getElem? (i := 171) (by decide +kernel)))
  obtain ⟨c7, i7, k7⟩ := u_known (C := RX7) (T := TX7) (N := nfl 7) (n := nfl 7) hts (inT _ inG_X7) (hts (.instantiable RX7 (nfl 7)) (List.mem_of_getElem? (i := 158) (by decide +kernel)))
  obtain ⟨c8, i8, k8⟩ := u_known (C := RX8) (T := TX8) (N := nfl 8) (n := nfl 8) hts (inT _ inG_X8) (hts (.instantiable RX8 (nfl 8)) (List.mem_of_getElem? (i := 110) (by decide +kernel)))
  obtain ⟨c9, i9, k9⟩ := u_known (C := RX9) (T := TX9) (N := nfl 9) (n := nfl 9) hts (inT _ inG_X9) (hts (.instantiable RX9 (nfl 9)) (List.mem_of_getElem? (i := 822) (by decide +kernel)))
  refine ⟨fun k => if k = 0 then c0 else if k = 1 then c1 else if k = 2 then c2 else if k = 3 then c3 else if k = 4 then c4 else if k = 5 then c5 else if k = 6 then c6 else if k = 7 then c7 else if k = 8 then c8 else c9, fun k => if k = 0 then i0 else if k = 1 then i1 else if k = 2 then i2 else if k = 3 then i3 else if k = 4 then i4 else if k = 5 then i5 else if k = 6 then i6 else if k = 7 then i7 else if k = 8 then i8 else i9, ?_⟩
  intro k q hq
  match k, hq with
  | 0, hq => cases hq; exact k0
  | 1, hq => cases hq; exact k1
  | 2, hq => cases hq; exact k2
  | 3, hq => cases hq; exact k3
  | 4, hq => cases hq; exact k4
  | 5, hq => cases hq; exact k5
  | 6, hq => cases hq; exact k6
  | 7, hq => cases hq; exact k7
  | 8, hq => cases hq; exact k8
  | 9, hq => cases hq; exact k9
  | k + 10, hq => simp [vwCl] at hq
theorem start_G {s : State} {b : Nat} (hgv : (Jvm.Cond.and given_1 narrow_1).before #[Value.ref b] s = true) (hts : ∀ w ∈ lw_tbl, w.before #[Value.ref b] s = true) : ∃ G : GG, G.1 = s.heap.size ∧ kkG G s ∧ zsG G s s.heap := by
  obtain ⟨dC, dI, hKc⟩ := kn_all hts
  obtain ⟨a0, p0, r0⟩ := arr_p (ty := .int) (hts _ (List.mem_of_getElem? (i := 156) (by decide +kernel)))
  obtain ⟨a1, p1, r1⟩ := arr_p (ty := .boolean) (hts _ (List.mem_of_getElem? (i := 912) (by decide +kernel)))
  obtain ⟨a2, p2, r2⟩ := arr_o (C := RX5) (hts _ (List.mem_of_getElem? (i := 118) (by decide +kernel)))
  obtain ⟨a3, p3, r3⟩ := arr_o (C := RX6) (hts _ (List.mem_of_getElem? (i := 170) (by decide +kernel)))
  obtain ⟨a4, p4, r4⟩ := arr_o (C := RX7) (hts _ (List.mem_of_getElem? (i := 277) (by decide +kernel)))
  obtain ⟨t0, z0, y0⟩ := tab_0 hgv hts
  obtain ⟨t1, z1, y1⟩ := tab_1 hgv hts
  obtain ⟨t2, z2, y2⟩ := tab_2 hgv hts
  refine ⟨(s.heap.size, (dC, dI), (fun k => if k = 0 then a0 else if k = 1 then a1 else if k = 2 then a2 else if k = 3 then a3 else a4), (fun t => if t = 0 then t0 else if t = 1 then t1 else t2)), rfl, ⟨⟨hKc, fun k q hk => ?_⟩, fun w hw => va_Nw.of (nw_tabs hw) (hts w (List.mem_filter.mp hw).1)⟩, ⟨fun t ht => ?_, fun C hC => ?_⟩⟩
  · match k, hk with
    | 0, hk => cases hk; exact ⟨p0, r0⟩
    | 1, hk => cases hk; exact ⟨p1, r1⟩
    | 2, hk => cases hk; exact ⟨p2, r2⟩
    | 3, hk => cases hk; exact ⟨p3, r3⟩
    | 4, hk => cases hk; exact ⟨p4, r4⟩
    | k + 5, hk => simp [tysG] at hk
  · have : t = 0 ∨ t = 1 ∨ t = 2 := by omega
    rcases this with rfl | rfl | rfl
    · exact ⟨z0, y0⟩
    · exact ⟨z1, y1⟩
    · exact ⟨z2, y2⟩
  · rcases hC with rfl | rfl | rfl
    · exact va_AO.of (hts _ (List.mem_of_getElem? (i := 118) (by decide +kernel)))
    · exact va_AO.of (hts _ (List.mem_of_getElem? (i := 170) (by decide +kernel)))
    · exact va_AO.of (hts _ (List.mem_of_getElem? (i := 277) (by decide +kernel)))
set_option maxRecDepth 100000 in
set_option maxHeartbeats 4000000 in
theorem law_go {X : XT} {G : GG} {nm : String} {b SL : Nat} {xs : Nat → Int32} {Q : State → Prop} {sh : SH} {f : MM} (C : Cx X G (mLaw nm) 1311 600000 7302250 0) (S : Scr X G b SL xs) (K : ∀ (kn : Nat) (f : MM) (cs sl i : Nat), cs ≤ 600000 → sl ≤ 7302250 → Vw X G (mLaw nm).2.2.2.1 cs sl Q (NN kn) (shF kn) f 1001 [some (.ref b), some (.ref (G.1 + 0)), some (.ref (G.1 + 85)), some (.int (nI i))] []) : Vw X G (mLaw nm).2.2.2.1 0 0 Q 0 sh f 0 [some (.ref b), none, none, none] [] := by
  refine r_new (ci := 8) (pc := 0) C wClL_7 wInX8 wIzX8 rfl inG_X8 tyX8_ok dfX8 dL_law_0 ⟨Nat.le_of_ble_eq_true rfl, Nat.le_of_ble_eq_true rfl⟩ ?_
  refine r_dup (pc := 3) C dL_law_3 rfl ?_
  refine r_calli (pc := 4) C kL_9 dL_law_4 (n_X8 (va_up_self _ _ _) (va_up_self _ _ _)) rfl rfl (Nat.le_of_ble_eq_true rfl) (by decide) ⟨Nat.le_of_ble_eq_true rfl, Nat.le_of_ble_eq_true rfl⟩ (fun r4 N4 s4 f4 h4 => ?_)
  obtain ⟨rfl, rfl, a4, b4⟩ := h4
  refine v_eqW (sh' := shF 0) (f' := fZ) (fun k hk => ?_) ?_
  · have q := b4 k (by omega)
    rw [Nat.zero_add] at q
    exact ⟨q.1.trans (by dsimp only; rw [Nat.zero_add]), q.2⟩
  refine r_astore_n (pc := 7) C dL_law_7 (Nat.le_of_ble_eq_true rfl) rfl ?_
  refine r_new (ci := 9) (pc := 8) C wClL_10 wInX9 wIzX9 rfl inG_X9 tyX9_ok dfX9 dL_law_8 ⟨Nat.le_of_ble_eq_true rfl, Nat.le_of_ble_eq_true rfl⟩ ?_
  refine r_dup (pc := 11) C dL_law_11 rfl ?_
  refine r_calli (pc := 12) C kL_12 dL_law_12 (n_X9 (va_up_self _ _ _) (va_up_self _ _ _)) rfl rfl (Nat.le_of_ble_eq_true rfl) (by decide) ⟨Nat.le_of_ble_eq_true rfl, Nat.le_of_ble_eq_true rfl⟩ (fun r12 N12 s12 f12 h12 => ?_)
  obtain ⟨rfl, rfl, a12, b12⟩ := h12
  refine v_eqW (sh' := shF 0) (f' := fZ) (fun k hk => ?_) ?_
  · by_cases e : k < 85
    · have q := a12 k e
      rw [q.1, q.2, va_up_ne _ _ (by omega), va_up_ne _ _ (by omega)]
      exact ⟨rfl, rfl⟩
    · obtain ⟨d, rfl⟩ : ∃ d, k = 85 + d := ⟨k - 85, by omega⟩
      exact b12 d (by omega)
  refine r_astore_n (pc := 15) C dL_law_15 (Nat.le_of_ble_eq_true rfl) rfl ?_
  refine r_iconst (pc := 16) C (0) dL_law_16 (by decide) ?_
  refine r_istore_n (pc := 17) C dL_law_17 (Nat.le_of_ble_eq_true rfl) rfl ?_
  exact law_loop C S K 65 0 0 _ _ fZ (by omega) (by have := S.2.2.2; omega) (Nat.le_of_ble_eq_true rfl) (Nat.le_of_ble_eq_true rfl) inv_0
