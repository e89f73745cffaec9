/-! Capo -/
set_option maxRecDepth 10000 in
set_option maxHeartbeats 1000000 in
theorem k_X0_shapeDifficulty (L T F : Int → Int) (lc cc sg mn : Int) (i e9 : Int) (hi : 0 ≤ i ∧ i < cc) (hc : 0 ≤ cc ∧ cc ≤ 40) (he : e9 = 0 ∨ e9 = 1) (hF : ∀ j : Int, 0 ≤ j → j < 200 → -1000 ≤ F j ∧ F j ≤ 1000) : zMet q_X0_shapeDifficulty 2 0 0 [zR 0, zI i, zI e9] (wSh L T F lc cc sg mn) (zD (some (zI (shD (F (i * 5 + 3)) (F (i * 5 + 4)) (F (i * 5 + 2)) e9))) (wSh L T F lc cc sg mn)) := by
  refine z_introF (ls := [(0, _), (1, _), (2, _)]) (by decide +kernel) rfl (fun _ _ => rfl) (fun _ _ => Nat.le_of_ble_eq_true rfl) ?_
  have f2 := hF (i * 5 + 2) (by omega) (by omega)
  have f3 := hF (i * 5 + 3) (by omega) (by omega)
  have f4 := hF (i * 5 + 4) (by omega) (by omega)
  have p2 := pcl_b (F (i * 5 + 2))
  have p4 := pcl_b (F (i * 5 + 4))
  refine wa_iload_n (pc' := 1) dX0_shapeDifficulty_0 rfl rfl rfl ?_
  refine wa_if_eq (tgt := 8) (pc' := 4) dX0_shapeDifficulty_1 (by decide) rfl (by omega) (fun c1 => ?_) (fun c1 => ?_)
  · refine wa_iconst (pc' := 9) dX0_shapeDifficulty_8 rfl ?_
    refine wa_istore_n (pc' := 10) (ls' := [(3, _), (0, _), (1, _), (2, _)]) dX0_shapeDifficulty_9 rfl rfl (by decide) rfl ?_
    refine wa_aload_n (pc' := 11) dX0_shapeDifficulty_10 rfl rfl rfl ?_
    refine wa_iload_n (pc' := 12) dX0_shapeDifficulty_11 rfl rfl rfl ?_
    refine wa_iconst (pc' := 13) dX0_shapeDifficulty_12 rfl ?_
    refine wa_rV (pc' := 16) (k_X8_get _ _ _ _ _ _ _ _ _ (by omega) (by omega)) ok_X8_get lm_X0_15 dX0_shapeDifficulty_13 rfl [0, 1, 2, 3] rfl (by decide) rfl rfl rfl rfl rfl (by decide) (Nat.le_of_ble_eq_true rfl) rfl (by decide) (by decide) rfl ?_
    refine wa_iconst (pc' := 17) dX0_shapeDifficulty_16 rfl ?_
    refine wa_icmp_le (tgt := 23) (pc' := 20) dX0_shapeDifficulty_17 (by decide) rfl (by omega) (by omega) (fun c17 => ?_) (fun c17 => ?_)
    · refine wa_aload_n (pc' := 24) dX0_shapeDifficulty_23 rfl rfl rfl ?_
      refine wa_iload_n (pc' := 25) dX0_shapeDifficulty_24 rfl rfl rfl ?_
      refine wa_iconst (pc' := 26) dX0_shapeDifficulty_25 rfl ?_
      refine wa_rV (pc' := 29) (k_X8_get _ _ _ _ _ _ _ _ _ (by omega) (by omega)) ok_X8_get lm_X0_15 dX0_shapeDifficulty_26 rfl [0, 1, 2, 3] rfl (by decide) rfl rfl rfl rfl rfl (by decide) (Nat.le_of_ble_eq_true rfl) rfl (by decide) (by decide) rfl ?_
      refine wa_istore (pc' := 31) (ls' := [(4, _), (3, _), (0, _), (1, _), (2, _)]) dX0_shapeDifficulty_29 rfl (by decide) rfl ?_
      refine wa_aload_n (pc' := 32) dX0_shapeDifficulty_31 rfl rfl rfl ?_
      refine wa_iload_n (pc' := 33) dX0_shapeDifficulty_32 rfl rfl rfl ?_
      refine wa_iconst (pc' := 34) dX0_shapeDifficulty_33 rfl ?_
      refine wa_rV (pc' := 37) (k_X8_get _ _ _ _ _ _ _ _ _ (by omega) (by omega)) ok_X8_get lm_X0_15 dX0_shapeDifficulty_34 rfl [0, 1, 2, 3] rfl (by decide) rfl rfl rfl rfl rfl (by decide) (Nat.le_of_ble_eq_true rfl) rfl (by decide) (by decide) rfl ?_
      refine wa_istore (pc' := 39) (ls' := [(5, _), (4, _), (3, _), (0, _), (1, _), (2, _)]) dX0_shapeDifficulty_37 rfl (by decide) rfl ?_
      refine wa_iload (pc' := 41) dX0_shapeDifficulty_39 rfl rfl ?_
      refine wa_bipush (pc' := 43) dX0_shapeDifficulty_41 rfl rfl ?_
      refine wa_icmp_eq (tgt := 62) (pc' := 46) dX0_shapeDifficulty_43 (by decide) rfl (by omega) (by omega) (fun c43 => ?_) (fun c43 => ?_)
      · refine wa_iload_n (pc' := 63) dX0_shapeDifficulty_62 rfl rfl rfl ?_
        refine wa_iret dX0_shapeDifficulty_63 rfl (by decide) (by decide) ?_
        refine zD_i ?_ rfl
        rw [shD]
        congr 2
        (repeat' split) <;> omega
      · refine wa_iload (pc' := 48) dX0_shapeDifficulty_46 rfl rfl ?_
        refine wa_dS (pc' := 51) (w' := [_, _, _, _]) (k_X4_pitchClass _ (by omega)) ok_X4_pitchClass lm_X0_44 dX0_shapeDifficulty_48 rfl [] rfl (by decide) rfl rfl (by decide) (Nat.le_of_ble_eq_true rfl) rfl (by decide) (by decide) rfl rfl rfl ?_
        refine wa_iload (pc' := 53) dX0_shapeDifficulty_51 rfl rfl ?_
        refine wa_dS (pc' := 56) (w' := [_, _, _, _]) (k_X4_pitchClass _ (by omega)) ok_X4_pitchClass lm_X0_44 dX0_shapeDifficulty_53 rfl [] rfl (by decide) rfl rfl (by decide) (Nat.le_of_ble_eq_true rfl) rfl (by decide) (by decide) rfl rfl rfl ?_
        refine wa_icmp_eq (tgt := 62) (pc' := 59) dX0_shapeDifficulty_56 (by decide) rfl (by omega) (by omega) (fun c56 => ?_) (fun c56 => ?_)
        · refine wa_iload_n (pc' := 63) dX0_shapeDifficulty_62 rfl rfl rfl ?_
          refine wa_iret dX0_shapeDifficulty_63 rfl (by decide) (by decide) ?_
          refine zD_i ?_ rfl
          rw [shD]
          congr 2
          (repeat' split) <;> omega
        · refine wa_iinc (pc' := 62) (ls' := [(3, _), (5, _), (4, _), (0, _), (1, _), (2, _)]) dX0_shapeDifficulty_59 rfl rfl (by decide) rfl ?_
          refine wa_iload_n (pc' := 63) dX0_shapeDifficulty_62 rfl rfl rfl ?_
          refine wa_iret dX0_shapeDifficulty_63 rfl (by decide) (by decide) ?_
          refine zD_i ?_ rfl
          rw [shD]
          congr 2
          (repeat' split) <;> omega
    · refine wa_iinc (pc' := 23) (ls' := [(3, _), (0, _), (1, _), (2, _)]) dX0_shapeDifficulty_20 rfl rfl (by decide) rfl ?_
      refine wa_aload_n (pc' := 24) dX0_shapeDifficulty_23 rfl rfl rfl ?_
      refine wa_iload_n (pc' := 25) dX0_shapeDifficulty_24 rfl rfl rfl ?_
      refine wa_iconst (pc' := 26) dX0_shapeDifficulty_25 rfl ?_
      refine wa_rV (pc' := 29) (k_X8_get _ _ _ _ _ _ _ _ _ (by omega) (by omega)) ok_X8_get lm_X0_15 dX0_shapeDifficulty_26 rfl [0, 1, 2, 3] rfl (by decide) rfl rfl rfl rfl rfl (by decide) (Nat.le_of_ble_eq_true rfl) rfl (by decide) (by decide) rfl ?_
      refine wa_istore (pc' := 31) (ls' := [(4, _), (3, _), (0, _), (1, _), (2, _)]) dX0_shapeDifficulty_29 rfl (by decide) rfl ?_
      refine wa_aload_n (pc' := 32) dX0_shapeDifficulty_31 rfl rfl rfl ?_
      refine wa_iload_n (pc' := 33) dX0_shapeDifficulty_32 rfl rfl rfl ?_
      refine wa_iconst (pc' := 34) dX0_shapeDifficulty_33 rfl ?_
      refine wa_rV (pc' := 37) (k_X8_get _ _ _ _ _ _ _ _ _ (by omega) (by omega)) ok_X8_get lm_X0_15 dX0_shapeDifficulty_34 rfl [0, 1, 2, 3] rfl (by decide) rfl rfl rfl rfl rfl (by decide) (Nat.le_of_ble_eq_true rfl) rfl (by decide) (by decide) rfl ?_
      refine wa_istore (pc' := 39) (ls' := [(5, _), (4, _), (3, _), (0, _), (1, _), (2, _)]) dX0_shapeDifficulty_37 rfl (by decide) rfl ?_
      refine wa_iload (pc' := 41) dX0_shapeDifficulty_39 rfl rfl ?_
      refine wa_bipush (pc' := 43) dX0_shapeDifficulty_41 rfl rfl ?_
      refine wa_icmp_eq (tgt := 62) (pc' := 46) dX0_shapeDifficulty_43 (by decide) rfl (by omega) (by omega) (fun c43 => ?_) (fun c43 => ?_)
      · refine wa_iload_n (pc' := 63) dX0_shapeDifficulty_62 rfl rfl rfl ?_
        refine wa_iret dX0_shapeDifficulty_63 rfl (by decide) (by decide) ?_
        refine zD_i ?_ rfl
        rw [shD]
        congr 2
        (repeat' split) <;> omega
      · refine wa_iload (pc' := 48) dX0_shapeDifficulty_46 rfl rfl ?_
        refine wa_dS (pc' := 51) (w' := [_, _, _, _]) (k_X4_pitchClass _ (by omega)) ok_X4_pitchClass lm_X0_44 dX0_shapeDifficulty_48 rfl [] rfl (by decide) rfl rfl (by decide) (Nat.le_of_ble_eq_true rfl) rfl (by decide) (by decide) rfl rfl rfl ?_
        refine wa_iload (pc' := 53) dX0_shapeDifficulty_51 rfl rfl ?_
        refine wa_dS (pc' := 56) (w' := [_, _, _, _]) (k_X4_pitchClass _ (by omega)) ok_X4_pitchClass lm_X0_44 dX0_shapeDifficulty_53 rfl [] rfl (by decide) rfl rfl (by decide) (Nat.le_of_ble_eq_true rfl) rfl (by decide) (by decide) rfl rfl rfl ?_
        refine wa_icmp_eq (tgt := 62) (pc' := 59) dX0_shapeDifficulty_56 (by decide) rfl (by omega) (by omega) (fun c56 => ?_) (fun c56 => ?_)
        · refine wa_iload_n (pc' := 63) dX0_shapeDifficulty_62 rfl rfl rfl ?_
          refine wa_iret dX0_shapeDifficulty_63 rfl (by decide) (by decide) ?_
          refine zD_i ?_ rfl
          rw [shD]
          congr 2
          (repeat' split) <;> omega
        · refine wa_iinc (pc' := 62) (ls' := [(3, _), (5, _), (4, _), (0, _), (1, _), (2, _)]) dX0_shapeDifficulty_59 rfl rfl (by decide) rfl ?_
          refine wa_iload_n (pc' := 63) dX0_shapeDifficulty_62 rfl rfl rfl ?_
          refine wa_iret dX0_shapeDifficulty_63 rfl (by decide) (by decide) ?_
          refine zD_i ?_ rfl
          rw [shD]
          congr 2
          (repeat' split) <;> omega
  · refine wa_iconst (pc' := 5) dX0_shapeDifficulty_4 rfl ?_
    refine wa_goto (pc' := 9) dX0_shapeDifficulty_5 (by decide) ?_
    refine wa_istore_n (pc' := 10) (ls' := [(3, _), (0, _), (1, _), (2, _)]) dX0_shapeDifficulty_9 rfl rfl (by decide) rfl ?_
    refine wa_aload_n (pc' := 11) dX0_shapeDifficulty_10 rfl rfl rfl ?_
    refine wa_iload_n (pc' := 12) dX0_shapeDifficulty_11 rfl rfl rfl ?_
    refine wa_iconst (pc' := 13) dX0_shapeDifficulty_12 rfl ?_
    refine wa_rV (pc' := 16) (k_X8_get _ _ _ _ _ _ _ _ _ (by omega) (by omega)) ok_X8_get lm_X0_15 dX0_shapeDifficulty_13 rfl [0, 1, 2, 3] rfl (by decide) rfl rfl rfl rfl rfl (by decide) (Nat.le_of_ble_eq_true rfl) rfl (by decide) (by decide) rfl ?_
    refine wa_iconst (pc' := 17) dX0_shapeDifficulty_16 rfl ?_
    refine wa_icmp_le (tgt := 23) (pc' := 20) dX0_shapeDifficulty_17 (by decide) rfl (by omega) (by omega) (fun c17 => ?_) (fun c17 => ?_)
    · refine wa_aload_n (pc' := 24) dX0_shapeDifficulty_23 rfl rfl rfl ?_
      refine wa_iload_n (pc' := 25) dX0_shapeDifficulty_24 rfl rfl rfl ?_
      refine wa_iconst (pc' := 26) dX0_shapeDifficulty_25 rfl ?_
      refine wa_rV (pc' := 29) (k_X8_get _ _ _ _ _ _ _ _ _ (by omega) (by omega)) ok_X8_get lm_X0_15 dX0_shapeDifficulty_26 rfl [0, 1, 2, 3] rfl (by decide) rfl rfl rfl rfl rfl (by decide) (Nat.le_of_ble_eq_true rfl) rfl (by decide) (by decide) rfl ?_
      refine wa_istore (pc' := 31) (ls' := [(4, _), (3, _), (0, _), (1, _), (2, _)]) dX0_shapeDifficulty_29 rfl (by decide) rfl ?_
      refine wa_aload_n (pc' := 32) dX0_shapeDifficulty_31 rfl rfl rfl ?_
      refine wa_iload_n (pc' := 33) dX0_shapeDifficulty_32 rfl rfl rfl ?_
      refine wa_iconst (pc' := 34) dX0_shapeDifficulty_33 rfl ?_
      refine wa_rV (pc' := 37) (k_X8_get _ _ _ _ _ _ _ _ _ (by omega) (by omega)) ok_X8_get lm_X0_15 dX0_shapeDifficulty_34 rfl [0, 1, 2, 3] rfl (by decide) rfl rfl rfl rfl rfl (by decide) (Nat.le_of_ble_eq_true rfl) rfl (by decide) (by decide) rfl ?_
      refine wa_istore (pc' := 39) (ls' := [(5, _), (4, _), (3, _), (0, _), (1, _), (2, _)]) dX0_shapeDifficulty_37 rfl (by decide) rfl ?_
      refine wa_iload (pc' := 41) dX0_shapeDifficulty_39 rfl rfl ?_
      refine wa_bipush (pc' := 43) dX0_shapeDifficulty_41 rfl rfl ?_
      refine wa_icmp_eq (tgt := 62) (pc' := 46) dX0_shapeDifficulty_43 (by decide) rfl (by omega) (by omega) (fun c43 => ?_) (fun c43 => ?_)
      · refine wa_iload_n (pc' := 63) dX0_shapeDifficulty_62 rfl rfl rfl ?_
        refine wa_iret dX0_shapeDifficulty_63 rfl (by decide) (by decide) ?_
        refine zD_i ?_ rfl
        rw [shD]
        congr 2
        (repeat' split) <;> omega
      · refine wa_iload (pc' := 48) dX0_shapeDifficulty_46 rfl rfl ?_
        refine wa_dS (pc' := 51) (w' := [_, _, _, _]) (k_X4_pitchClass _ (by omega)) ok_X4_pitchClass lm_X0_44 dX0_shapeDifficulty_48 rfl [] rfl (by decide) rfl rfl (by decide) (Nat.le_of_ble_eq_true rfl) rfl (by decide) (by decide) rfl rfl rfl ?_
        refine wa_iload (pc' := 53) dX0_shapeDifficulty_51 rfl rfl ?_
        refine wa_dS (pc' := 56) (w' := [_, _, _, _]) (k_X4_pitchClass _ (by omega)) ok_X4_pitchClass lm_X0_44 dX0_shapeDifficulty_53 rfl [] rfl (by decide) rfl rfl (by decide) (Nat.le_of_ble_eq_true rfl) rfl (by decide) (by decide) rfl rfl rfl ?_
        refine wa_icmp_eq (tgt := 62) (pc' := 59) dX0_shapeDifficulty_56 (by decide) rfl (by omega) (by omega) (fun c56 => ?_) (fun c56 => ?_)
        · refine wa_iload_n (pc' := 63) dX0_shapeDifficulty_62 rfl rfl rfl ?_
          refine wa_iret dX0_shapeDifficulty_63 rfl (by decide) (by decide) ?_
          refine zD_i ?_ rfl
          rw [shD]
          congr 2
          (repeat' split) <;> omega
        · refine wa_iinc (pc' := 62) (ls' := [(3, _), (5, _), (4, _), (0, _), (1, _), (2, _)]) dX0_shapeDifficulty_59 rfl rfl (by decide) rfl ?_
          refine wa_iload_n (pc' := 63) dX0_shapeDifficulty_62 rfl rfl rfl ?_
          refine wa_iret dX0_shapeDifficulty_63 rfl (by decide) (by decide) ?_
          refine zD_i ?_ rfl
          rw [shD]
          congr 2
          (repeat' split) <;> omega
    · refine wa_iinc (pc' := 23) (ls' := [(3, _), (0, _), (1, _), (2, _)]) dX0_shapeDifficulty_20 rfl rfl (by decide) rfl ?_
      refine wa_aload_n (pc' := 24) dX0_shapeDifficulty_23 rfl rfl rfl ?_
      refine wa_iload_n (pc' := 25) dX0_shapeDifficulty_24 rfl rfl rfl ?_
      refine wa_iconst (pc' := 26) dX0_shapeDifficulty_25 rfl ?_
      refine wa_rV (pc' := 29) (k_X8_get _ _ _ _ _ _ _ _ _ (by omega) (by omega)) ok_X8_get lm_X0_15 dX0_shapeDifficulty_26 rfl [0, 1, 2, 3] rfl (by decide) rfl rfl rfl rfl rfl (by decide) (Nat.le_of_ble_eq_true rfl) rfl (by decide) (by decide) rfl ?_
      refine wa_istore (pc' := 31) (ls' := [(4, _), (3, _), (0, _), (1, _), (2, _)]) dX0_shapeDifficulty_29 rfl (by decide) rfl ?_
      refine wa_aload_n (pc' := 32) dX0_shapeDifficulty_31 rfl rfl rfl ?_
      refine wa_iload_n (pc' := 33) dX0_shapeDifficulty_32 rfl rfl rfl ?_
      refine wa_iconst (pc' := 34) dX0_shapeDifficulty_33 rfl ?_
      refine wa_rV (pc' := 37) (k_X8_get _ _ _ _ _ _ _ _ _ (by omega) (by omega)) ok_X8_get lm_X0_15 dX0_shapeDifficulty_34 rfl [0, 1, 2, 3] rfl (by decide) rfl rfl rfl rfl rfl (by decide) (Nat.le_of_ble_eq_true rfl) rfl (by decide) (by decide) rfl ?_
      refine wa_istore (pc' := 39) (ls' := [(5, _), (4, _), (3, _), (0, _), (1, _), (2, _)]) dX0_shapeDifficulty_37 rfl (by decide) rfl ?_
      refine wa_iload (pc' := 41) dX0_shapeDifficulty_39 rfl rfl ?_
      refine wa_bipush (pc' := 43) dX0_shapeDifficulty_41 rfl rfl ?_
      refine wa_icmp_eq (tgt := 62) (pc' := 46) dX0_shapeDifficulty_43 (by decide) rfl (by omega) (by omega) (fun c43 => ?_) (fun c43 => ?_)
      · refine wa_iload_n (pc' := 63) dX0_shapeDifficulty_62 rfl rfl rfl ?_
        refine wa_iret dX0_shapeDifficulty_63 rfl (by decide) (by decide) ?_
        refine zD_i ?_ rfl
        rw [shD]
        congr 2
        (repeat' split) <;> omega
      · refine wa_iload (pc' := 48) dX0_shapeDifficulty_46 rfl rfl ?_
        refine wa_dS (pc' := 51) (w' := [_, _, _, _]) (k_X4_pitchClass _ (by omega)) ok_X4_pitchClass lm_X0_44 dX0_shapeDifficulty_48 rfl [] rfl (by decide) rfl rfl (by decide) (Nat.le_of_ble_eq_true rfl) rfl (by decide) (by decide) rfl rfl rfl ?_
        refine wa_iload (pc' := 53) dX0_shapeDifficulty_51 rfl rfl ?_
        refine wa_dS (pc' := 56) (w' := [_, _, _, _]) (k_X4_pitchClass _ (by omega)) ok_X4_pitchClass lm_X0_44 dX0_shapeDifficulty_53 rfl [] rfl (by decide) rfl rfl (by decide) (Nat.le_of_ble_eq_true rfl) rfl (by decide) (by decide) rfl rfl rfl ?_
        refine wa_icmp_eq (tgt := 62) (pc' := 59) dX0_shapeDifficulty_56 (by decide) rfl (by omega) (by omega) (fun c56 => ?_) (fun c56 => ?_)
        · refine wa_iload_n (pc' := 63) dX0_shapeDifficulty_62 rfl rfl rfl ?_
          refine wa_iret dX0_shapeDifficulty_63 rfl (by decide) (by decide) ?_
          refine zD_i ?_ rfl
          rw [shD]
          congr 2
          (repeat' split) <;> omega
        · refine wa_iinc (pc' := 62) (ls' := [(3, _), (5, _), (4, _), (0, _), (1, _), (2, _)]) dX0_shapeDifficulty_59 rfl rfl (by decide) rfl ?_
          refine wa_iload_n (pc' := 63) dX0_shapeDifficulty_62 rfl rfl rfl ?_
          refine wa_iret dX0_shapeDifficulty_63 rfl (by decide) (by decide) ?_
          refine zD_i ?_ rfl
          rw [shD]
          congr 2
          (repeat' split) <;> omega

set_option maxRecDepth 10000 in
set_option maxHeartbeats 1000000 in
theorem l_difficultyAt (L T F : Int → Int) (lc cc sg mn : Int) (fr R : Int) (hf : 0 ≤ fr ∧ fr ≤ 7) (hc : 0 ≤ cc ∧ cc ≤ 40) (hF : ∀ j : Int, 0 ≤ j → j < 200 → -1000 ≤ F j ∧ F j ≤ 1000) (hQ : ∀ i : Int, 0 ≤ i → i < cc → 0 ≤ F (i * 5 + 3) ∧ F (i * 5 + 3) < 10) : ∀ (m : Nat) (i s h b5 b6 : Int), 0 ≤ i → i + m = cc → 0 ≤ s ∧ s + 7 * m ≤ 1000 → 0 ≤ h ∧ h ≤ 100 → dfR F fr m i s h = R → Wa q_X0_difficultyAt 3 0 0 4 (zD (some (zI R)) (wSh L T F lc cc sg mn)) 8 [(4, zI i), (3, zI h), (2, zI s), (0, zR 0), (1, zI fr)] [] (wSh L T F lc cc sg mn) 0 0 := by
  intro m
  induction m with
  | zero =>
    intro i s h b5 b6 h0 hm1 hs hh hR
    refine wa_iload (pc' := 10) dX0_difficultyAt_8 rfl rfl ?_
    refine wa_aload_n (pc' := 11) dX0_difficultyAt_10 rfl rfl rfl ?_
    refine wa_rV (pc' := 14) (k_X8_chordCount _ _ _ _ _ _ _) ok_X8_chordCount lm_X0_9 dX0_difficultyAt_11 rfl [0, 1, 2, 3] rfl (by decide) rfl rfl rfl rfl rfl (by decide) (Nat.le_of_ble_eq_true rfl) rfl (by decide) (by decide) rfl ?_
    refine wa_icmp_ge (tgt := 98) (pc' := 17) dX0_difficultyAt_14 (by decide) rfl (by omega) (by omega) (fun c14 => ?_) (fun c14 => ?_)
    · refine wa_iload_n (pc' := 99) dX0_difficultyAt_98 rfl rfl rfl ?_
      refine wa_iret dX0_difficultyAt_99 rfl (by decide) (by decide) ?_
      exact zD_i (by rw [← hR]; rfl) rfl
    · exact absurd c14 (by omega)
  | succ m ih =>
    intro i s h b5 b6 h0 hm1 hs hh hR
    have f2 := hF (i * 5 + 2) (by omega) (by omega)
    have hq := hQ i (by omega) (by omega)
    have hM := Int.emod_nonneg (7 * F (i * 5 + 2) + -fr) (show (12 : Int) ≠ 0 by decide)
    have hM2 := Int.emod_lt_of_pos (7 * F (i * 5 + 2) + -fr) (show (0 : Int) < 12 by decide)
    have he := easyF_01 (F (i * 5 + 3)).toNat ((7 * F (i * 5 + 2) + -fr) % 12)
    have hd := shD_b (F (i * 5 + 3)) (F (i * 5 + 4)) (F (i * 5 + 2)) (easyF (F (i * 5 + 3)).toNat ((7 * F (i * 5 + 2) + -fr) % 12))
    refine wa_iload (pc' := 10) dX0_difficultyAt_8 rfl rfl ?_
    refine wa_aload_n (pc' := 11) dX0_difficultyAt_10 rfl rfl rfl ?_
    refine wa_rV (pc' := 14) (k_X8_chordCount _ _ _ _ _ _ _) ok_X8_chordCount lm_X0_9 dX0_difficultyAt_11 rfl [0, 1, 2, 3] rfl (by decide) rfl rfl rfl rfl rfl (by decide) (Nat.le_of_ble_eq_true rfl) rfl (by decide) (by decide) rfl ?_
    refine wa_icmp_ge (tgt := 98) (pc' := 17) dX0_difficultyAt_14 (by decide) rfl (by omega) (by omega) (fun c14 => ?_) (fun c14 => ?_)
    · exact absurd c14 (by omega)
    · refine wa_aload_n (pc' := 18) dX0_difficultyAt_17 rfl rfl rfl ?_
      refine wa_iload (pc' := 20) dX0_difficultyAt_18 rfl rfl ?_
      refine wa_iconst (pc' := 21) dX0_difficultyAt_20 rfl ?_
      refine wa_rV (pc' := 24) (k_X8_get _ _ _ _ _ _ _ _ _ (by omega) (by omega)) ok_X8_get lm_X0_15 dX0_difficultyAt_21 rfl [0, 1, 2, 3] rfl (by decide) rfl rfl rfl rfl rfl (by decide) (Nat.le_of_ble_eq_true rfl) rfl (by decide) (by decide) rfl ?_
      refine wa_iload_n (pc' := 25) dX0_difficultyAt_24 rfl rfl rfl ?_
      refine wa_ineg (pc' := 26) dX0_difficultyAt_25 rfl ?_
      refine wa_dS (pc' := 29) (w' := [_, _, _, _]) (k_X4_raised (F (i * 5 + 2)) (-fr) (by omega) (by omega)) ok_X4_raised lm_X0_19 dX0_difficultyAt_26 rfl [] rfl (by decide) rfl rfl (by decide) (Nat.le_of_ble_eq_true rfl) rfl (by decide) (by decide) rfl rfl rfl ?_
      refine wa_istore (pc' := 31) (ls' := [(5, _), (4, _), (3, _), (2, _), (0, _), (1, _)]) dX0_difficultyAt_29 rfl (by decide) rfl ?_
      refine wa_aload_n (pc' := 32) dX0_difficultyAt_31 rfl rfl rfl ?_
      refine wa_iload (pc' := 34) dX0_difficultyAt_32 rfl rfl ?_
      refine wa_iconst (pc' := 35) dX0_difficultyAt_34 rfl ?_
      refine wa_rV (pc' := 38) (k_X8_get _ _ _ _ _ _ _ _ _ (by omega) (by omega)) ok_X8_get lm_X0_15 dX0_difficultyAt_35 rfl [0, 1, 2, 3] rfl (by decide) rfl rfl rfl rfl rfl (by decide) (Nat.le_of_ble_eq_true rfl) rfl (by decide) (by decide) rfl ?_
      refine wa_dS (pc' := 41) (w' := [_, _, _, _]) (k_X5_at _ (by omega)) ok_X5_at lm_X0_24 dX0_difficultyAt_38 rfl [] rfl (by decide) rfl rfl (by decide) (Nat.le_of_ble_eq_true rfl) rfl (by decide) (by decide) rfl rfl rfl ?_
      refine wa_iload (pc' := 43) dX0_difficultyAt_41 rfl rfl ?_
      refine wa_dK (pc' := 46) (w' := [_, _, _, _]) (k_X5_isEasyOn (F (i * 5 + 3)).toNat (by omega) ((7 * F (i * 5 + 2) + -fr) % 12)) ok_X5_isEasyOn lm_X0_30 dX0_difficultyAt_43 rfl [] rfl (by decide) rfl rfl (zk_q (by omega)) (by decide) (Nat.le_of_ble_eq_true rfl) rfl (by decide) (by decide) rfl rfl rfl ?_
      refine wa_istore (pc' := 48) (ls' := [(6, _), (5, _), (4, _), (3, _), (2, _), (0, _), (1, _)]) dX0_difficultyAt_46 rfl (by decide) rfl ?_
      refine wa_iload_n (pc' := 49) dX0_difficultyAt_48 rfl rfl rfl ?_
      refine wa_aload_n (pc' := 50) dX0_difficultyAt_49 rfl rfl rfl ?_
      refine wa_iload (pc' := 52) dX0_difficultyAt_50 rfl rfl ?_
      refine wa_iload (pc' := 54) dX0_difficultyAt_52 rfl rfl ?_
      refine wa_rS (pc' := 57) (k_X0_shapeDifficulty _ _ _ _ _ _ _ _ _ (by omega) (by omega) (by omega) (by assumption)) ok_X0_shapeDifficulty lm_X0_34 dX0_difficultyAt_54 rfl [0, 1, 2, 3] rfl (by decide) rfl rfl (by decide) (Nat.le_of_ble_eq_true rfl) rfl (by decide) (by decide) rfl ?_
      refine wa_iadd (pc' := 58) dX0_difficultyAt_57 rfl ?_
      refine wa_istore_n (pc' := 59) (ls' := [(2, _), (6, _), (5, _), (4, _), (3, _), (0, _), (1, _)]) dX0_difficultyAt_58 rfl rfl (by decide) rfl ?_
      refine wa_iload (pc' := 61) dX0_difficultyAt_59 rfl rfl ?_
      refine wa_if_ne (tgt := 79) (pc' := 64) dX0_difficultyAt_61 (by decide) rfl (by omega) (fun c61 => ?_) (fun c61 => ?_)
      · refine wa_iload (pc' := 81) dX0_difficultyAt_79 rfl rfl ?_
        refine wa_if_eq (tgt := 89) (pc' := 84) dX0_difficultyAt_81 (by decide) rfl (by omega) (fun c81 => ?_) (fun c81 => ?_)
        · refine wa_iload (pc' := 91) dX0_difficultyAt_89 rfl rfl ?_
          refine wa_istore_n (pc' := 92) (ls' := [(3, _), (2, _), (6, _), (5, _), (4, _), (0, _), (1, _)]) dX0_difficultyAt_91 rfl rfl (by decide) rfl ?_
          refine wa_iinc (pc' := 95) (ls' := [(4, _), (3, _), (2, _), (6, _), (5, _), (0, _), (1, _)]) dX0_difficultyAt_92 rfl rfl (by decide) rfl ?_
          refine wa_goto (pc' := 8) dX0_difficultyAt_95 (by decide) ?_
          refine wa_sub [0, 1, 2, 5, 6] rfl ?_
          refine ih (i + 1) _ _ 0 0 (by omega) (by omega) ?_ ?_ ?_
          · (try constructor) <;> omega
          · (try constructor) <;> omega
          · rw [← hR, dfR]
            congr 1
            · (repeat' split) <;> omega
            · (repeat' split) <;> omega
        · refine wa_bipush (pc' := 86) dX0_difficultyAt_84 rfl rfl ?_
          refine wa_goto (pc' := 91) dX0_difficultyAt_86 (by decide) ?_
          refine wa_istore_n (pc' := 92) (ls' := [(3, _), (2, _), (6, _), (5, _), (4, _), (0, _), (1, _)]) dX0_difficultyAt_91 rfl rfl (by decide) rfl ?_
          refine wa_iinc (pc' := 95) (ls' := [(4, _), (3, _), (2, _), (6, _), (5, _), (0, _), (1, _)]) dX0_difficultyAt_92 rfl rfl (by decide) rfl ?_
          refine wa_goto (pc' := 8) dX0_difficultyAt_95 (by decide) ?_
          refine wa_sub [0, 1, 2, 5, 6] rfl ?_
          refine ih (i + 1) _ _ 0 0 (by omega) (by omega) ?_ ?_ ?_
          · (try constructor) <;> omega
          · (try constructor) <;> omega
          · rw [← hR, dfR]
            congr 1
            · (repeat' split) <;> omega
            · (repeat' split) <;> omega
      · refine wa_iload_n (pc' := 65) dX0_difficultyAt_64 rfl rfl rfl ?_
        refine wa_bipush (pc' := 67) dX0_difficultyAt_65 rfl rfl ?_
        refine wa_icmp_eq (tgt := 79) (pc' := 70) dX0_difficultyAt_67 (by decide) rfl (by omega) (by omega) (fun c67 => ?_) (fun c67 => ?_)
        · refine wa_iload (pc' := 81) dX0_difficultyAt_79 rfl rfl ?_
          refine wa_if_eq (tgt := 89) (pc' := 84) dX0_difficultyAt_81 (by decide) rfl (by omega) (fun c81 => ?_) (fun c81 => ?_)
          · refine wa_iload (pc' := 91) dX0_difficultyAt_89 rfl rfl ?_
            refine wa_istore_n (pc' := 92) (ls' := [(3, _), (2, _), (6, _), (5, _), (4, _), (0, _), (1, _)]) dX0_difficultyAt_91 rfl rfl (by decide) rfl ?_
            refine wa_iinc (pc' := 95) (ls' := [(4, _), (3, _), (2, _), (6, _), (5, _), (0, _), (1, _)]) dX0_difficultyAt_92 rfl rfl (by decide) rfl ?_
            refine wa_goto (pc' := 8) dX0_difficultyAt_95 (by decide) ?_
            refine wa_sub [0, 1, 2, 5, 6] rfl ?_
            refine ih (i + 1) _ _ 0 0 (by omega) (by omega) ?_ ?_ ?_
            · (try constructor) <;> omega
            · (try constructor) <;> omega
            · rw [← hR, dfR]
              congr 1
              · (repeat' split) <;> omega
              · (repeat' split) <;> omega
          · refine wa_bipush (pc' := 86) dX0_difficultyAt_84 rfl rfl ?_
            refine wa_goto (pc' := 91) dX0_difficultyAt_86 (by decide) ?_
            refine wa_istore_n (pc' := 92) (ls' := [(3, _), (2, _), (6, _), (5, _), (4, _), (0, _), (1, _)]) dX0_difficultyAt_91 rfl rfl (by decide) rfl ?_
            refine wa_iinc (pc' := 95) (ls' := [(4, _), (3, _), (2, _), (6, _), (5, _), (0, _), (1, _)]) dX0_difficultyAt_92 rfl rfl (by decide) rfl ?_
            refine wa_goto (pc' := 8) dX0_difficultyAt_95 (by decide) ?_
            refine wa_sub [0, 1, 2, 5, 6] rfl ?_
            refine ih (i + 1) _ _ 0 0 (by omega) (by omega) ?_ ?_ ?_
            · (try constructor) <;> omega
            · (try constructor) <;> omega
            · rw [← hR, dfR]
              congr 1
              · (repeat' split) <;> omega
              · (repeat' split) <;> omega
        · refine wa_iload_n (pc' := 71) dX0_difficultyAt_70 rfl rfl rfl ?_
          refine wa_iload (pc' := 73) dX0_difficultyAt_71 rfl rfl ?_
          refine wa_icmp_eq (tgt := 79) (pc' := 76) dX0_difficultyAt_73 (by decide) rfl (by omega) (by omega) (fun c73 => ?_) (fun c73 => ?_)
          · refine wa_iload (pc' := 81) dX0_difficultyAt_79 rfl rfl ?_
            refine wa_if_eq (tgt := 89) (pc' := 84) dX0_difficultyAt_81 (by decide) rfl (by omega) (fun c81 => ?_) (fun c81 => ?_)
            · refine wa_iload (pc' := 91) dX0_difficultyAt_89 rfl rfl ?_
              refine wa_istore_n (pc' := 92) (ls' := [(3, _), (2, _), (6, _), (5, _), (4, _), (0, _), (1, _)]) dX0_difficultyAt_91 rfl rfl (by decide) rfl ?_
              refine wa_iinc (pc' := 95) (ls' := [(4, _), (3, _), (2, _), (6, _), (5, _), (0, _), (1, _)]) dX0_difficultyAt_92 rfl rfl (by decide) rfl ?_
              refine wa_goto (pc' := 8) dX0_difficultyAt_95 (by decide) ?_
              refine wa_sub [0, 1, 2, 5, 6] rfl ?_
              refine ih (i + 1) _ _ 0 0 (by omega) (by omega) ?_ ?_ ?_
              · (try constructor) <;> omega
              · (try constructor) <;> omega
              · rw [← hR, dfR]
                congr 1
                · (repeat' split) <;> omega
                · (repeat' split) <;> omega
            · refine wa_bipush (pc' := 86) dX0_difficultyAt_84 rfl rfl ?_
              refine wa_goto (pc' := 91) dX0_difficultyAt_86 (by decide) ?_
              refine wa_istore_n (pc' := 92) (ls' := [(3, _), (2, _), (6, _), (5, _), (4, _), (0, _), (1, _)]) dX0_difficultyAt_91 rfl rfl (by decide) rfl ?_
              refine wa_iinc (pc' := 95) (ls' := [(4, _), (3, _), (2, _), (6, _), (5, _), (0, _), (1, _)]) dX0_difficultyAt_92 rfl rfl (by decide) rfl ?_
              refine wa_goto (pc' := 8) dX0_difficultyAt_95 (by decide) ?_
              refine wa_sub [0, 1, 2, 5, 6] rfl ?_
              refine ih (i + 1) _ _ 0 0 (by omega) (by omega) ?_ ?_ ?_
              · (try constructor) <;> omega
              · (try constructor) <;> omega
              · rw [← hR, dfR]
                congr 1
                · (repeat' split) <;> omega
                · (repeat' split) <;> omega
          · refine wa_iinc (pc' := 79) (ls' := [(2, _), (6, _), (5, _), (4, _), (3, _), (0, _), (1, _)]) dX0_difficultyAt_76 rfl rfl (by decide) rfl ?_
            refine wa_iload (pc' := 81) dX0_difficultyAt_79 rfl rfl ?_
            refine wa_if_eq (tgt := 89) (pc' := 84) dX0_difficultyAt_81 (by decide) rfl (by omega) (fun c81 => ?_) (fun c81 => ?_)
            · refine wa_iload (pc' := 91) dX0_difficultyAt_89 rfl rfl ?_
              refine wa_istore_n (pc' := 92) (ls' := [(3, _), (2, _), (6, _), (5, _), (4, _), (0, _), (1, _)]) dX0_difficultyAt_91 rfl rfl (by decide) rfl ?_
              refine wa_iinc (pc' := 95) (ls' := [(4, _), (3, _), (2, _), (6, _), (5, _), (0, _), (1, _)]) dX0_difficultyAt_92 rfl rfl (by decide) rfl ?_
              refine wa_goto (pc' := 8) dX0_difficultyAt_95 (by decide) ?_
              refine wa_sub [0, 1, 2, 5, 6] rfl ?_
              refine ih (i + 1) _ _ 0 0 (by omega) (by omega) ?_ ?_ ?_
              · (try constructor) <;> omega
              · (try constructor) <;> omega
              · rw [← hR, dfR]
                congr 1
                · (repeat' split) <;> omega
                · (repeat' split) <;> omega
            · refine wa_bipush (pc' := 86) dX0_difficultyAt_84 rfl rfl ?_
              refine wa_goto (pc' := 91) dX0_difficultyAt_86 (by decide) ?_
              refine wa_istore_n (pc' := 92) (ls' := [(3, _), (2, _), (6, _), (5, _), (4, _), (0, _), (1, _)]) dX0_difficultyAt_91 rfl rfl (by decide) rfl ?_
              refine wa_iinc (pc' := 95) (ls' := [(4, _), (3, _), (2, _), (6, _), (5, _), (0, _), (1, _)]) dX0_difficultyAt_92 rfl rfl (by decide) rfl ?_
              refine wa_goto (pc' := 8) dX0_difficultyAt_95 (by decide) ?_
              refine wa_sub [0, 1, 2, 5, 6] rfl ?_
              refine ih (i + 1) _ _ 0 0 (by omega) (by omega) ?_ ?_ ?_
              · (try constructor) <;> omega
              · (try constructor) <;> omega
              · rw [← hR, dfR]
                congr 1
                · (repeat' split) <;> omega
                · (repeat' split) <;> omega

set_option maxRecDepth 10000 in
set_option maxHeartbeats 1000000 in
theorem k_X0_difficultyAt (L T F : Int → Int) (lc cc sg mn : Int) (fr : Int) (hf : 0 ≤ fr ∧ fr ≤ 7) (hc : 0 ≤ cc ∧ cc ≤ 40) (hF : ∀ j : Int, 0 ≤ j → j < 200 → -1000 ≤ F j ∧ F j ≤ 1000) (hQ : ∀ i : Int, 0 ≤ i → i < cc → 0 ≤ F (i * 5 + 3) ∧ F (i * 5 + 3) < 10) : zMet q_X0_difficultyAt 3 0 0 [zR 0, zI fr] (wSh L T F lc cc sg mn) (zD (some (zI (dfF F cc fr))) (wSh L T F lc cc sg mn)) := by
  refine z_introF (ls := [(0, _), (1, _)]) (by decide +kernel) rfl (fun _ _ => rfl) (fun _ _ => Nat.le_of_ble_eq_true rfl) ?_
  refine wa_iload_n (pc' := 1) dX0_difficultyAt_0 rfl rfl rfl ?_
  refine wa_istore_n (pc' := 2) (ls' := [(2, _), (0, _), (1, _)]) dX0_difficultyAt_1 rfl rfl (by decide) rfl ?_
  refine wa_bipush (pc' := 4) dX0_difficultyAt_2 rfl rfl ?_
  refine wa_istore_n (pc' := 5) (ls' := [(3, _), (2, _), (0, _), (1, _)]) dX0_difficultyAt_4 rfl rfl (by decide) rfl ?_
  refine wa_iconst (pc' := 6) dX0_difficultyAt_5 rfl ?_
  refine wa_istore (pc' := 8) (ls' := [(4, _), (3, _), (2, _), (0, _), (1, _)]) dX0_difficultyAt_6 rfl (by decide) rfl ?_
  exact l_difficultyAt L T F lc cc sg mn fr _ hf hc hF hQ cc.toNat 0 fr 100 0 0 (by omega) (by omega) (by omega) (by omega) rfl

set_option maxRecDepth 10000 in
set_option maxHeartbeats 1000000 in
theorem l_easiest (L T F : Int → Int) (lc cc sg mn : Int) (R : Int) (hc : 0 ≤ cc ∧ cc ≤ 40) (hF : ∀ j : Int, 0 ≤ j → j < 200 → -1000 ≤ F j ∧ F j ≤ 1000) (hQ : ∀ i : Int, 0 ≤ i → i < cc → 0 ≤ F (i * 5 + 3) ∧ F (i * 5 + 3) < 10) : ∀ (m : Nat) (f b s : Int), 1 ≤ f → f + m = 8 → 0 ≤ b ∧ b ≤ 7 → 0 ≤ s ∧ s ≤ 300 → efR (dfF F cc) m f b s = R → Wa q_X0_easiestFret 4 0 0 4 (zD (some (zI R)) (wSh L T F lc cc sg mn)) 10 [(3, zI f), (2, zI s), (1, zI b), (0, zR 0)] [] (wSh L T F lc cc sg mn) 0 0 := by
  intro m
  induction m with
  | zero =>
    intro f b s h0 hm1 hb hs hR
    refine wa_iload_n (pc' := 11) dX0_easiestFret_10 rfl rfl rfl ?_
    refine wa_bipush (pc' := 13) dX0_easiestFret_11 rfl rfl ?_
    refine wa_icmp_gt (tgt := 40) (pc' := 16) dX0_easiestFret_13 (by decide) rfl (by omega) (by omega) (fun c13 => ?_) (fun c13 => ?_)
    · refine wa_iload_n (pc' := 41) dX0_easiestFret_40 rfl rfl rfl ?_
      refine wa_iret dX0_easiestFret_41 rfl (by decide) (by decide) ?_
      exact zD_i (by rw [← hR]; rfl) rfl
    · exact absurd c13 (by omega)
  | succ m ih =>
    intro f b s h0 hm1 hb hs hR
    have b1 := dfF_b F hc (show 0 ≤ f ∧ f ≤ 7 by omega)
    simp only [efR] at hR
    refine wa_iload_n (pc' := 11) dX0_easiestFret_10 rfl rfl rfl ?_
    refine wa_bipush (pc' := 13) dX0_easiestFret_11 rfl rfl ?_
    refine wa_icmp_gt (tgt := 40) (pc' := 16) dX0_easiestFret_13 (by decide) rfl (by omega) (by omega) (fun c13 => ?_) (fun c13 => ?_)
    · exact absurd c13 (by omega)
    · refine wa_aload_n (pc' := 17) dX0_easiestFret_16 rfl rfl rfl ?_
      refine wa_iload_n (pc' := 18) dX0_easiestFret_17 rfl rfl rfl ?_
      refine wa_rS (pc' := 21) (k_X0_difficultyAt _ _ _ _ _ _ _ _ (by omega) (by omega) (by assumption) (by assumption)) ok_X0_difficultyAt lm_X0_40 dX0_easiestFret_18 rfl [0, 1, 2, 3] rfl (by decide) rfl rfl (by decide) (Nat.le_of_ble_eq_true rfl) rfl (by decide) (by decide) rfl ?_
      refine wa_istore (pc' := 23) (ls' := [(4, _), (3, _), (2, _), (1, _), (0, _)]) dX0_easiestFret_21 rfl (by decide) rfl ?_
      refine wa_iload (pc' := 25) dX0_easiestFret_23 rfl rfl ?_
      refine wa_iload_n (pc' := 26) dX0_easiestFret_25 rfl rfl rfl ?_
      refine wa_icmp_ge (tgt := 34) (pc' := 29) dX0_easiestFret_26 (by decide) rfl (by omega) (by omega) (fun c26 => ?_) (fun c26 => ?_)
      · refine wa_iinc (pc' := 37) (ls' := [(3, _), (4, _), (2, _), (1, _), (0, _)]) dX0_easiestFret_34 rfl rfl (by decide) rfl ?_
        refine wa_goto (pc' := 10) dX0_easiestFret_37 (by decide) ?_
        refine wa_sub [0, 2, 3, 4] rfl ?_
        (repeat' split at hR) <;> first | omega | exact ih (f + 1) _ _ (by omega) (by omega) (by omega) (by omega) hR
      · refine wa_iload_n (pc' := 30) dX0_easiestFret_29 rfl rfl rfl ?_
        refine wa_istore_n (pc' := 31) (ls' := [(1, _), (4, _), (3, _), (2, _), (0, _)]) dX0_easiestFret_30 rfl rfl (by decide) rfl ?_
        refine wa_iload (pc' := 33) dX0_easiestFret_31 rfl rfl ?_
        refine wa_istore_n (pc' := 34) (ls' := [(2, _), (1, _), (4, _), (3, _), (0, _)]) dX0_easiestFret_33 rfl rfl (by decide) rfl ?_
        refine wa_iinc (pc' := 37) (ls' := [(3, _), (2, _), (1, _), (4, _), (0, _)]) dX0_easiestFret_34 rfl rfl (by decide) rfl ?_
        refine wa_goto (pc' := 10) dX0_easiestFret_37 (by decide) ?_
        refine wa_sub [0, 1, 2, 4] rfl ?_
        (repeat' split at hR) <;> first | omega | exact ih (f + 1) _ _ (by omega) (by omega) (by omega) (by omega) hR

def efF (F : Int → Int) (cc : Int) : Int := efR (dfF F cc) 7 1 0 (dfF F cc 0)
set_option maxRecDepth 10000 in
set_option maxHeartbeats 1000000 in
theorem k_X0_easiestFret (L T F : Int → Int) (lc cc sg mn : Int) (hc : 0 ≤ cc ∧ cc ≤ 40) (hF : ∀ j : Int, 0 ≤ j → j < 200 → -1000 ≤ F j ∧ F j ≤ 1000) (hQ : ∀ i : Int, 0 ≤ i → i < cc → 0 ≤ F (i * 5 + 3) ∧ F (i * 5 + 3) < 10) : zMet q_X0_easiestFret 4 0 0 [zR 0] (wSh L T F lc cc sg mn) (zD (some (zI (efF F cc))) (wSh L T F lc cc sg mn)) := by
  refine z_introF (ls := [(0, _)]) (by decide +kernel) rfl (fun _ _ => rfl) (fun _ _ => Nat.le_of_ble_eq_true rfl) ?_
  have b0 := dfF_b F hc (show (0 : Int) ≤ 0 ∧ (0 : Int) ≤ 7 by decide)
  refine wa_iconst (pc' := 1) dX0_easiestFret_0 rfl ?_
  refine wa_istore_n (pc' := 2) (ls' := [(1, _), (0, _)]) dX0_easiestFret_1 rfl rfl (by decide) rfl ?_
  refine wa_aload_n (pc' := 3) dX0_easiestFret_2 rfl rfl rfl ?_
  refine wa_iconst (pc' := 4) dX0_easiestFret_3 rfl ?_
  refine wa_rS (pc' := 7) (k_X0_difficultyAt _ _ _ _ _ _ _ _ (by omega) (by omega) (by assumption) (by assumption)) ok_X0_difficultyAt lm_X0_40 dX0_easiestFret_4 rfl [0, 1, 2, 3] rfl (by decide) rfl rfl (by decide) (Nat.le_of_ble_eq_true rfl) rfl (by decide) (by decide) rfl ?_
  refine wa_istore_n (pc' := 8) (ls' := [(2, _), (1, _), (0, _)]) dX0_easiestFret_7 rfl rfl (by decide) rfl ?_
  refine wa_iconst (pc' := 9) dX0_easiestFret_8 rfl ?_
  refine wa_istore_n (pc' := 10) (ls' := [(3, _), (2, _), (1, _), (0, _)]) dX0_easiestFret_9 rfl rfl (by decide) rfl ?_
  exact l_easiest L T F lc cc sg mn _ hc hF hQ 7 1 0 _ (by omega) (by omega) (by omega) b0 rfl

