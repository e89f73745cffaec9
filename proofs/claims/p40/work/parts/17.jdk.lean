set_option maxRecDepth 10000 in
set_option maxHeartbeats 1000000 in
theorem k_J9_floorMod_7cf53 (a b : Int) (ha : zin a) (hb : 0 < b ∧ b ≤ 2147483647) : zMet q_J9_floorMod_7cf53 0 0 0 [zI a, zI b] [] (zD (some (zI (a % b))) []) := by
  refine z_introF (ls := [(0, _), (1, _)]) (by decide +kernel) rfl (fun _ _ => rfl) (fun _ _ => Nat.le_of_ble_eq_true rfl) ?_
  have hq : zin (a.tdiv b) := z_tdiv ha hb.1
  have hs := zxor_sgn ha (show zin b from ⟨by omega, by omega⟩) (by omega)
  have hr := Int.emod_nonneg a (show b ≠ 0 by omega)
  have hr2 := Int.emod_lt_of_pos a hb.1
  refine wa_iload_n (pc' := 1) dJ9_floorMod_7cf53_0 rfl rfl rfl ?_
  refine wa_iload_n (pc' := 2) dJ9_floorMod_7cf53_1 rfl rfl rfl ?_
  refine wa_irem (pc' := 3) dJ9_floorMod_7cf53_2 rfl (by omega) (by omega) (by omega) hq ?_
  refine wa_istore_n (pc' := 4) (ls' := [(2, _), (0, _), (1, _)]) dJ9_floorMod_7cf53_3 rfl rfl (by decide) rfl ?_
  refine wa_iload_n (pc' := 5) dJ9_floorMod_7cf53_4 rfl rfl rfl ?_
  refine wa_iload_n (pc' := 6) dJ9_floorMod_7cf53_5 rfl rfl rfl ?_
  refine wa_ixor (pc' := 7) dJ9_floorMod_7cf53_6 rfl ?_
  refine wa_if_ge (tgt := 18) (pc' := 10) dJ9_floorMod_7cf53_7 (by decide) rfl (zxor_in _ _) (fun c7 => ?_) (fun c7 => ?_)
  · have hp := z_tmod_pos (b := b) (hs.mp c7)
    refine wa_iload_n (pc' := 19) dJ9_floorMod_7cf53_18 rfl rfl rfl ?_
    refine wa_iret dJ9_floorMod_7cf53_19 rfl (by decide) (by decide) ?_
    first | exact zD_i (by rw [hp]) rfl | exact zD_i (by rw [hp.1 c11, c11]) rfl
  · have hp := z_tmod_neg (show a < 0 by omega) hb.1
    have hz11 : zin (a.tmod b) := by
      by_cases h9 : a.tmod b = 0
      · omega
      · have := hp.2 h9; omega
    refine wa_iload_n (pc' := 11) dJ9_floorMod_7cf53_10 rfl rfl rfl ?_
    refine wa_if_eq (tgt := 18) (pc' := 14) dJ9_floorMod_7cf53_11 (by decide) rfl hz11 (fun c11 => ?_) (fun c11 => ?_)
    · refine wa_iload_n (pc' := 19) dJ9_floorMod_7cf53_18 rfl rfl rfl ?_
      refine wa_iret dJ9_floorMod_7cf53_19 rfl (by decide) (by decide) ?_
      first | exact zD_i (by rw [hp]) rfl | exact zD_i (by rw [hp.1 c11, c11]) rfl
    · refine wa_iload_n (pc' := 15) dJ9_floorMod_7cf53_14 rfl rfl rfl ?_
      refine wa_iload_n (pc' := 16) dJ9_floorMod_7cf53_15 rfl rfl rfl ?_
      refine wa_iadd (pc' := 17) dJ9_floorMod_7cf53_16 rfl ?_
      refine wa_iret dJ9_floorMod_7cf53_17 rfl (by decide) (by decide) ?_
      exact zD_i (by rw [hp.2 c11]) rfl

set_option maxRecDepth 10000 in
set_option maxHeartbeats 1000000 in
theorem k_J9_floorDiv_7cf53 (a b : Int) (ha : zin a) (hb : 0 < b ∧ b ≤ 2147483647) : zMet q_J9_floorDiv_7cf53 0 0 0 [zI a, zI b] [] (zD (some (zI (a / b))) []) := by
  refine z_introF (ls := [(0, _), (1, _)]) (by decide +kernel) rfl (fun _ _ => rfl) (fun _ _ => Nat.le_of_ble_eq_true rfl) ?_
  have hq : zin (a.tdiv b) := z_tdiv ha hb.1
  have hs := zxor_sgn ha (show zin b from ⟨by omega, by omega⟩) (by omega)
  have hdm := Int.mul_tdiv_add_tmod a b
  have hdm2 := Int.mul_ediv_add_emod a b
  have hdm3 := Int.mul_comm b (a.tdiv b)
  refine wa_iload_n (pc' := 1) dJ9_floorDiv_7cf53_0 rfl rfl rfl ?_
  refine wa_iload_n (pc' := 2) dJ9_floorDiv_7cf53_1 rfl rfl rfl ?_
  refine wa_idiv (pc' := 3) dJ9_floorDiv_7cf53_2 rfl (by omega) (by omega) (by omega) hq ?_
  refine wa_istore_n (pc' := 4) (ls' := [(2, _), (0, _), (1, _)]) dJ9_floorDiv_7cf53_3 rfl rfl (by decide) rfl ?_
  refine wa_iload_n (pc' := 5) dJ9_floorDiv_7cf53_4 rfl rfl rfl ?_
  refine wa_iload_n (pc' := 6) dJ9_floorDiv_7cf53_5 rfl rfl rfl ?_
  refine wa_ixor (pc' := 7) dJ9_floorDiv_7cf53_6 rfl ?_
  refine wa_if_ge (tgt := 21) (pc' := 10) dJ9_floorDiv_7cf53_7 (by decide) rfl (zxor_in _ _) (fun c7 => ?_) (fun c7 => ?_)
  · have hp := z_tdiv_pos (b := b) (hs.mp c7)
    refine wa_iload_n (pc' := 22) dJ9_floorDiv_7cf53_21 rfl rfl rfl ?_
    refine wa_iret dJ9_floorDiv_7cf53_22 rfl (by decide) (by decide) ?_
    first | exact zD_i (by rw [hp]) rfl | exact zD_i (by rw [z_fd1 hb.1 (by omega)]) rfl
  · have hp := z_tmod_neg (show a < 0 by omega) hb.1
    have hn : a < 0 := by omega
    have hr := Int.emod_nonneg a (show b ≠ 0 by omega)
    have hr2 := Int.emod_lt_of_pos a hb.1
    have hz14 : zin (a.tdiv b * b) := by
      by_cases h9 : a.tmod b = 0
      · omega
      · have := hp.2 h9; omega
    refine wa_iload_n (pc' := 11) dJ9_floorDiv_7cf53_10 rfl rfl rfl ?_
    refine wa_iload_n (pc' := 12) dJ9_floorDiv_7cf53_11 rfl rfl rfl ?_
    refine wa_imul (pc' := 13) dJ9_floorDiv_7cf53_12 rfl ?_
    refine wa_iload_n (pc' := 14) dJ9_floorDiv_7cf53_13 rfl rfl rfl ?_
    refine wa_icmp_eq (tgt := 21) (pc' := 17) dJ9_floorDiv_7cf53_14 (by decide) rfl hz14 (by omega) (fun c14 => ?_) (fun c14 => ?_)
    · refine wa_iload_n (pc' := 22) dJ9_floorDiv_7cf53_21 rfl rfl rfl ?_
      refine wa_iret dJ9_floorDiv_7cf53_22 rfl (by decide) (by decide) ?_
      first | exact zD_i (by rw [hp]) rfl | exact zD_i (by rw [z_fd1 hb.1 (by omega)]) rfl
    · refine wa_iload_n (pc' := 18) dJ9_floorDiv_7cf53_17 rfl rfl rfl ?_
      refine wa_iconst (pc' := 19) dJ9_floorDiv_7cf53_18 rfl ?_
      refine wa_isub (pc' := 20) dJ9_floorDiv_7cf53_19 rfl ?_
      refine wa_iret dJ9_floorDiv_7cf53_20 rfl (by decide) (by decide) ?_
      exact zD_i (by rw [z_fd2 hb.1 (show a < 0 by omega) (by omega)]) rfl

set_option maxRecDepth 10000 in
set_option maxHeartbeats 1000000 in
theorem k_J0_coder_7d493 (q : Nat) (hq : q < 11) : zMet q_J0_coder_7d493 0 0 0 [zK (11 + q)] [] (zD (some (zI 0)) []) := by
  refine z_introF (ls := [(0, _)]) (by decide +kernel) rfl (fun _ _ => rfl) (fun _ _ => Nat.le_of_ble_eq_true rfl) ?_
  refine wa_kgetsI (pc' := 3) (x := 1) zk_compact lk_J0_38 dJ0_coder_7d493_0 rfl ?_
  refine wa_if_eq (tgt := 13) (pc' := 6) dJ0_coder_7d493_3 (by decide) rfl (by omega) (fun c3 => ?_) (fun c3 => ?_)
  · exact absurd c3 (by decide)
  · refine wa_aload_n (pc' := 7) dJ0_coder_7d493_6 rfl rfl rfl ?_
    refine wa_kget (q := "") (pc' := 10) (v := zI 0) (zk_coder hq) lk_J0_15 dJ0_coder_7d493_7 rfl ?_
    refine wa_goto (pc' := 14) dJ0_coder_7d493_10 (by decide) ?_
    refine wa_bret dJ0_coder_7d493_14 rfl (by decide) (by decide) (by omega) (by omega) ?_
    exact ⟨rfl, rfl⟩

set_option maxRecDepth 10000 in
set_option maxHeartbeats 1000000 in
theorem k_J0_isLatin1_aae02 (q : Nat) (hq : q < 11) : zMet q_J0_isLatin1_aae02 0 0 0 [zK (11 + q)] [] (zD (some (zI 1)) []) := by
  refine z_introF (ls := [(0, _)]) (by decide +kernel) rfl (fun _ _ => rfl) (fun _ _ => Nat.le_of_ble_eq_true rfl) ?_
  refine wa_kgetsI (pc' := 3) (x := 1) zk_compact lk_J0_38 dJ0_isLatin1_aae02_0 rfl ?_
  refine wa_if_eq (tgt := 17) (pc' := 6) dJ0_isLatin1_aae02_3 (by decide) rfl (by omega) (fun c3 => ?_) (fun c3 => ?_)
  · exact absurd c3 (by decide)
  · refine wa_aload_n (pc' := 7) dJ0_isLatin1_aae02_6 rfl rfl rfl ?_
    refine wa_kget (q := "") (pc' := 10) (v := zI 0) (zk_coder hq) lk_J0_15 dJ0_isLatin1_aae02_7 rfl ?_
    refine wa_if_ne (tgt := 17) (pc' := 13) dJ0_isLatin1_aae02_10 (by decide) rfl (by omega) (fun c10 => ?_) (fun c10 => ?_)
    · exact absurd rfl c10
    · refine wa_iconst (pc' := 14) dJ0_isLatin1_aae02_13 rfl ?_
      refine wa_goto (pc' := 18) dJ0_isLatin1_aae02_14 (by decide) ?_
      refine wa_zret dJ0_isLatin1_aae02_18 rfl (by decide) (by decide) (by omega) ?_
      exact ⟨rfl, rfl⟩

set_option maxRecDepth 10000 in
set_option maxHeartbeats 1000000 in
theorem k_J0_length_8abf5 (q : Nat) (hq : q < 11) : zMet q_J0_length_8abf5 1 0 0 [zK (11 + q)] [] (zD (some (zI (zBytes.getD q []).length)) []) := by
  refine z_introF (ls := [(0, _)]) (by decide +kernel) rfl (fun _ _ => rfl) (fun _ _ => Nat.le_of_ble_eq_true rfl) ?_
  refine wa_aload_n (pc' := 1) dJ0_length_8abf5_0 rfl rfl rfl ?_
  refine wa_kget (q := "") (pc' := 4) (v := zK (30 + q)) (zk_value hq) lk_J0_9 dJ0_length_8abf5_1 rfl ?_
  refine wa_klen (pc' := 5) (zk_bytes hq) dJ0_length_8abf5_4 rfl ?_
  refine wa_aload_n (pc' := 6) dJ0_length_8abf5_5 rfl rfl rfl ?_
  refine wa_dK (pc' := 9) (w' := []) (k_J0_coder_7d493 _ hq) ok_J0_coder_7d493 lm_J0_335 dJ0_length_8abf5_6 rfl [] rfl (by decide) rfl rfl (zk_str hq) (by decide) (Nat.le_of_ble_eq_true rfl) rfl (by decide) (by decide) rfl rfl rfl ?_
  refine wa_ishr (pc' := 10) dJ0_length_8abf5_9 rfl ?_
  refine wa_iret dJ0_length_8abf5_10 rfl (by decide) (by decide) ?_
  exact zD_i (by have := zblen hq; rw [zshr0 ⟨by omega, by omega⟩]) rfl

set_option maxRecDepth 10000 in
set_option maxHeartbeats 1000000 in
theorem k_J3a (i n : Int) (hi : 0 ≤ i) (hn : i < n) (hz : zin n) : zMet q_J3_checkIndex_8e157 0 0 0 [zI i, zI n, zN] [] (zD (some (zI i)) []) := by
  refine z_introF (ls := [(0, _), (1, _), (2, _)]) (by decide +kernel) rfl (fun _ _ => rfl) (fun _ _ => Nat.le_of_ble_eq_true rfl) ?_
  refine wa_iload_n (pc' := 1) dJ3_checkIndex_8e157_0 rfl rfl rfl ?_
  refine wa_if_lt (tgt := 9) (pc' := 4) dJ3_checkIndex_8e157_1 (by decide) rfl (by omega) (fun c1 => ?_) (fun c1 => ?_)
  · exact absurd c1 (by omega)
  · refine wa_iload_n (pc' := 5) dJ3_checkIndex_8e157_4 rfl rfl rfl ?_
    refine wa_iload_n (pc' := 6) dJ3_checkIndex_8e157_5 rfl rfl rfl ?_
    refine wa_icmp_lt (tgt := 16) (pc' := 9) dJ3_checkIndex_8e157_6 (by decide) rfl (by omega) (by omega) (fun c6 => ?_) (fun c6 => ?_)
    · refine wa_iload_n (pc' := 17) dJ3_checkIndex_8e157_16 rfl rfl rfl ?_
      refine wa_iret dJ3_checkIndex_8e157_17 rfl (by decide) (by decide) ?_
      exact ⟨rfl, rfl⟩
    · exact absurd hn c6

set_option maxRecDepth 10000 in
set_option maxHeartbeats 1000000 in
theorem k_J3b (i n : Int) (hi : 0 ≤ i) (hn : i < n) (hz : zin n) : zMet q_J3_checkIndex_8e157 0 0 0 [zI i, zI n, zK 60] [] (zD (some (zI i)) []) := by
  refine z_introF (ls := [(0, _), (1, _), (2, _)]) (by decide +kernel) rfl (fun _ _ => rfl) (fun _ _ => Nat.le_of_ble_eq_true rfl) ?_
  refine wa_iload_n (pc' := 1) dJ3_checkIndex_8e157_0 rfl rfl rfl ?_
  refine wa_if_lt (tgt := 9) (pc' := 4) dJ3_checkIndex_8e157_1 (by decide) rfl (by omega) (fun c1 => ?_) (fun c1 => ?_)
  · exact absurd c1 (by omega)
  · refine wa_iload_n (pc' := 5) dJ3_checkIndex_8e157_4 rfl rfl rfl ?_
    refine wa_iload_n (pc' := 6) dJ3_checkIndex_8e157_5 rfl rfl rfl ?_
    refine wa_icmp_lt (tgt := 16) (pc' := 9) dJ3_checkIndex_8e157_6 (by decide) rfl (by omega) (by omega) (fun c6 => ?_) (fun c6 => ?_)
    · refine wa_iload_n (pc' := 17) dJ3_checkIndex_8e157_16 rfl rfl rfl ?_
      refine wa_iret dJ3_checkIndex_8e157_17 rfl (by decide) (by decide) ?_
      exact ⟨rfl, rfl⟩
    · exact absurd hn c6

set_option maxRecDepth 10000 in
set_option maxHeartbeats 1000000 in
theorem k_J0_checkIndex_df160 (i n : Int) (hi : 0 ≤ i) (hn : i < n) (hz : zin n) : zMet q_J0_checkIndex_df160 1 0 0 [zI i, zI n] [] (zD none []) := by
  refine z_introF (ls := [(0, _), (1, _)]) (by decide +kernel) rfl (fun _ _ => rfl) (fun _ _ => Nat.le_of_ble_eq_true rfl) ?_
  refine wa_iload_n (pc' := 1) dJ0_checkIndex_df160_0 rfl rfl rfl ?_
  refine wa_iload_n (pc' := 2) dJ0_checkIndex_df160_1 rfl rfl rfl ?_
  refine wa_sioobe2 (pc' := 5) lk_J0_1053 dJ0_checkIndex_df160_2 rfl ?_ ?_
  · refine wa_dS (pc' := 8) (w' := []) (k_J3a _ _ (by omega) (by omega) (by omega)) ok_J3_checkIndex_8e157 lm_J0_1059 dJ0_checkIndex_df160_5 rfl [] rfl (by decide) rfl rfl (by decide) (Nat.le_of_ble_eq_true rfl) rfl (by decide) (by decide) rfl rfl rfl ?_
    refine wa_pop (pc' := 9) dJ0_checkIndex_df160_8 rfl rfl ?_
    refine wa_vret dJ0_checkIndex_df160_9 rfl (by decide) (by decide) ?_
    exact ⟨rfl, rfl⟩
  · refine wa_dS (pc' := 8) (w' := []) (k_J3b _ _ (by omega) (by omega) (by omega)) ok_J3_checkIndex_8e157 lm_J0_1059 dJ0_checkIndex_df160_5 rfl [] rfl (by decide) rfl rfl (by decide) (Nat.le_of_ble_eq_true rfl) rfl (by decide) (by decide) rfl rfl rfl ?_
    refine wa_pop (pc' := 9) dJ0_checkIndex_df160_8 rfl rfl ?_
    refine wa_vret dJ0_checkIndex_df160_9 rfl (by decide) (by decide) ?_
    exact ⟨rfl, rfl⟩

set_option maxRecDepth 10000 in
set_option maxHeartbeats 1000000 in
theorem k_J1_charAt_3b067 (q : Nat) (hq : q < 11) (i : Int) (hi : 0 ≤ i) (hn : i < (zBytes.getD q []).length) : zMet q_J1_charAt_3b067 2 0 0 [zK (30 + q), zI i] [] (zD (some (zI ((zBytes.getD q []).getD i.toNat 0))) []) := by
  refine z_introF (ls := [(0, _), (1, _)]) (by decide +kernel) rfl (fun _ _ => rfl) (fun _ _ => Nat.le_of_ble_eq_true rfl) ?_
  have hl := zblen hq
  obtain ⟨b1, b2, b3⟩ := zbyte q hq i.toNat (by omega)
  refine wa_iload_n (pc' := 1) dJ1_charAt_3b067_0 rfl rfl rfl ?_
  refine wa_aload_n (pc' := 2) dJ1_charAt_3b067_1 rfl rfl rfl ?_
  refine wa_klen (pc' := 3) (zk_bytes hq) dJ1_charAt_3b067_2 rfl ?_
  refine wa_dS (pc' := 6) (w' := []) (k_J0_checkIndex_df160 _ _ (by omega) (by omega) (by omega)) ok_J0_checkIndex_df160 lm_J1_9 dJ1_charAt_3b067_3 rfl [] rfl (by decide) rfl rfl (by decide) (Nat.le_of_ble_eq_true rfl) rfl (by decide) (by decide) rfl rfl rfl ?_
  refine wa_aload_n (pc' := 7) dJ1_charAt_3b067_6 rfl rfl rfl ?_
  refine wa_iload_n (pc' := 8) dJ1_charAt_3b067_7 rfl rfl rfl ?_
  refine wa_kbaload (pc' := 9) hq dJ1_charAt_3b067_8 rfl (by omega) (by omega) ?_
  refine wa_sipush (pc' := 12) dJ1_charAt_3b067_9 rfl rfl ?_
  refine wa_iand (pc' := 13) dJ1_charAt_3b067_12 rfl ?_
  refine wa_i2c (pc' := 14) dJ1_charAt_3b067_13 rfl (by rw [b1]; omega) (by rw [b1]; omega) ?_
  refine wa_cret dJ1_charAt_3b067_14 rfl (by decide) (by decide) (by rw [b1]; omega) (by rw [b1]; omega) ?_
  exact zD_i (by rw [b1]) rfl

set_option maxRecDepth 10000 in
set_option maxHeartbeats 1000000 in
theorem k_J0_charAt_5068e (q : Nat) (hq : q < 11) (i : Int) (hi : 0 ≤ i) (hn : i < (zBytes.getD q []).length) : zMet q_J0_charAt_5068e 3 0 0 [zK (11 + q), zI i] [] (zD (some (zI ((zBytes.getD q []).getD i.toNat 0))) []) := by
  refine z_introF (ls := [(0, _), (1, _)]) (by decide +kernel) rfl (fun _ _ => rfl) (fun _ _ => Nat.le_of_ble_eq_true rfl) ?_
  obtain ⟨b1, b2, b3⟩ := zbyte q hq i.toNat (by omega)
  refine wa_aload_n (pc' := 1) dJ0_charAt_5068e_0 rfl rfl rfl ?_
  refine wa_dK (pc' := 4) (w' := []) (k_J0_isLatin1_aae02 _ hq) ok_J0_isLatin1_aae02 lm_J0_492 dJ0_charAt_5068e_1 rfl [] rfl (by decide) rfl rfl (zk_str hq) (by decide) (Nat.le_of_ble_eq_true rfl) rfl (by decide) (by decide) rfl rfl rfl ?_
  refine wa_if_eq (tgt := 16) (pc' := 7) dJ0_charAt_5068e_4 (by decide) rfl (by omega) (fun c4 => ?_) (fun c4 => ?_)
  · exact absurd c4 (by decide)
  · refine wa_aload_n (pc' := 8) dJ0_charAt_5068e_7 rfl rfl rfl ?_
    refine wa_kget (q := "") (pc' := 11) (v := zK (30 + q)) (zk_value hq) lk_J0_9 dJ0_charAt_5068e_8 rfl ?_
    refine wa_iload_n (pc' := 12) dJ0_charAt_5068e_11 rfl rfl rfl ?_
    refine wa_dS (pc' := 15) (w' := []) (k_J1_charAt_3b067 _ hq _ (by omega) (by omega)) ok_J1_charAt_3b067 lm_J0_495 dJ0_charAt_5068e_12 rfl [] rfl (by decide) rfl rfl (by decide) (Nat.le_of_ble_eq_true rfl) rfl (by decide) (by decide) rfl rfl rfl ?_
    refine wa_cret dJ0_charAt_5068e_15 rfl (by decide) (by decide) (by omega) (by omega) ?_
    exact ⟨rfl, rfl⟩

set_option maxRecDepth 10000 in
set_option maxHeartbeats 1000000 in
theorem k_J1_canEncode_9a6ad (c : Int) (hc : 0 ≤ c ∧ c ≤ 255) : zMet q_J1_canEncode_9a6ad 0 0 0 [zI c] [] (zD (some (zI 1)) []) := by
  refine z_introF (ls := [(0, _)]) (by decide +kernel) rfl (fun _ _ => rfl) (fun _ _ => Nat.le_of_ble_eq_true rfl) ?_
  refine wa_iload_n (pc' := 1) dJ1_canEncode_9a6ad_0 rfl rfl rfl ?_
  refine wa_if_lt (tgt := 15) (pc' := 4) dJ1_canEncode_9a6ad_1 (by decide) rfl (by omega) (fun c1 => ?_) (fun c1 => ?_)
  · exact absurd c1 (by omega)
  · refine wa_iload_n (pc' := 5) dJ1_canEncode_9a6ad_4 rfl rfl rfl ?_
    refine wa_sipush (pc' := 8) dJ1_canEncode_9a6ad_5 rfl rfl ?_
    refine wa_icmp_gt (tgt := 15) (pc' := 11) dJ1_canEncode_9a6ad_8 (by decide) rfl (by omega) (by omega) (fun c8 => ?_) (fun c8 => ?_)
    · exact absurd c8 (by omega)
    · refine wa_iconst (pc' := 12) dJ1_canEncode_9a6ad_11 rfl ?_
      refine wa_goto (pc' := 16) dJ1_canEncode_9a6ad_12 (by decide) ?_
      refine wa_zret dJ1_canEncode_9a6ad_16 rfl (by decide) (by decide) (by omega) ?_
      exact ⟨rfl, rfl⟩

set_option maxRecDepth 10000 in
set_option maxHeartbeats 1000000 in
theorem k_J9_min_7cf53 (a b : Int) (ha : zin a) (hb : zin b) (h : a ≤ b) : zMet q_J9_min_7cf53 0 0 0 [zI a, zI b] [] (zD (some (zI a)) []) := by
  refine z_introF (ls := [(0, _), (1, _)]) (by decide +kernel) rfl (fun _ _ => rfl) (fun _ _ => Nat.le_of_ble_eq_true rfl) ?_
  refine wa_iload_n (pc' := 1) dJ9_min_7cf53_0 rfl rfl rfl ?_
  refine wa_iload_n (pc' := 2) dJ9_min_7cf53_1 rfl rfl rfl ?_
  refine wa_icmp_gt (tgt := 9) (pc' := 5) dJ9_min_7cf53_2 (by decide) rfl (by omega) (by omega) (fun c2 => ?_) (fun c2 => ?_)
  · exact absurd c2 (by omega)
  · refine wa_iload_n (pc' := 6) dJ9_min_7cf53_5 rfl rfl rfl ?_
    refine wa_goto (pc' := 10) dJ9_min_7cf53_6 (by decide) ?_
    refine wa_iret dJ9_min_7cf53_10 rfl (by decide) (by decide) ?_
    exact ⟨rfl, rfl⟩

set_option maxRecDepth 10000 in
set_option maxHeartbeats 1000000 in
theorem l_indexOf (c : Int) (hc : 65 ≤ c ∧ c ≤ 71) : ∀ (n j : Nat), j ≤ 7 → 8 ≤ j + n → (∀ i : Nat, i < j → (zBytes.getD 10 []).getD i 0 ≠ c) → Wa q_J1_indexOfChar_4cfef 0 0 0 0 (zD (some (zI (zidx c))) []) 7 [(5, zI j), (4, zI c), (0, zK 40), (1, zI c), (2, zI 0), (3, zI 7)] [] [] 0 0 := by
  intro n
  induction n with
  | zero => intro j h1 h2; omega
  | succ n ih =>
    intro j hj hn hb
    refine wa_iload (pc' := 9) dJ1_indexOfChar_4cfef_7 rfl rfl ?_
    refine wa_iload_n (pc' := 10) dJ1_indexOfChar_4cfef_9 rfl rfl rfl ?_
    refine wa_icmp_ge (tgt := 31) (pc' := 13) dJ1_indexOfChar_4cfef_10 (by decide) rfl (by omega) (by omega) (fun c10 => ?_) (fun c10 => ?_)
    · have h7 : j = 7 := by omega
      subst h7
      exfalso
      have q0 := hb 0 (by decide); have q1 := hb 1 (by decide); have q2 := hb 2 (by decide); have q3 := hb 3 (by decide); have q4 := hb 4 (by decide); have q5 := hb 5 (by decide); have q6 := hb 6 (by decide)
      have e0 : (zBytes.getD 10 []).getD 0 0 = 70 := rfl
      have e1 : (zBytes.getD 10 []).getD 1 0 = 67 := rfl
      have e2 : (zBytes.getD 10 []).getD 2 0 = 71 := rfl
      have e3 : (zBytes.getD 10 []).getD 3 0 = 68 := rfl
      have e4 : (zBytes.getD 10 []).getD 4 0 = 65 := rfl
      have e5 : (zBytes.getD 10 []).getD 5 0 = 69 := rfl
      have e6 : (zBytes.getD 10 []).getD 6 0 = 66 := rfl
      omega
    · refine wa_aload_n (pc' := 14) dJ1_indexOfChar_4cfef_13 rfl rfl rfl ?_
      refine wa_iload (pc' := 16) dJ1_indexOfChar_4cfef_14 rfl rfl ?_
      refine wa_kbaload (pc' := 17) (q := 10) (by decide) dJ1_indexOfChar_4cfef_16 rfl (by omega) (by show (j : Int) < (7 : Nat); omega) ?_
      refine wa_iload (pc' := 19) dJ1_indexOfChar_4cfef_17 rfl rfl ?_
      refine wa_icmp_ne (tgt := 25) (pc' := 22) dJ1_indexOfChar_4cfef_19 (by decide) rfl (by have := zbyte 10 (by decide) j (by show j < 7; omega); show zin ((zBytes.getD 10 []).getD (j : Int).toNat 0); rw [show (j : Int).toNat = j by omega]; omega) (by omega) (fun c19 => ?_) (fun c19 => ?_)
      · refine wa_iinc (pc' := 28) (ls' := [(5, _), (4, _), (0, _), (1, _), (2, _), (3, _)]) dJ1_indexOfChar_4cfef_25 rfl rfl (by decide) rfl ?_
        refine wa_goto (pc' := 7) dJ1_indexOfChar_4cfef_28 (by decide) ?_
        exact ih (j + 1) (by omega) (by omega) (fun i hi => by
          by_cases h9 : i = j
          · rw [h9]; exact fun h8 => c19 h8
          · exact hb i (by omega))
      · refine wa_iload (pc' := 24) dJ1_indexOfChar_4cfef_22 rfl rfl ?_
        refine wa_iret dJ1_indexOfChar_4cfef_24 rfl (by decide) (by decide) ?_
        refine zD_i ?_ rfl
        have hj7 : j < 7 := by omega
        have e9 := zidx_b j hj7
        rw [show (zBytes.getD 10 []).getD j 0 = c from c19] at e9
        rw [e9]

set_option maxRecDepth 10000 in
set_option maxHeartbeats 1000000 in
theorem k_J1_indexOfChar_4cfef (c : Int) (hc : 65 ≤ c ∧ c ≤ 71) : zMet q_J1_indexOfChar_4cfef 0 0 0 [zK 40, zI c, zI 0, zI 7] [] (zD (some (zI (zidx c))) []) := by
  refine z_introF (ls := [(0, _), (1, _), (2, _), (3, _)]) (by decide +kernel) rfl (fun _ _ => rfl) (fun _ _ => Nat.le_of_ble_eq_true rfl) ?_
  refine wa_iload_n (pc' := 1) dJ1_indexOfChar_4cfef_0 rfl rfl rfl ?_
  refine wa_i2b (pc' := 2) dJ1_indexOfChar_4cfef_1 rfl (by omega) (by omega) ?_
  refine wa_istore (pc' := 4) (ls' := [(4, _), (0, _), (1, _), (2, _), (3, _)]) dJ1_indexOfChar_4cfef_2 rfl (by decide) rfl ?_
  refine wa_iload_n (pc' := 5) dJ1_indexOfChar_4cfef_4 rfl rfl rfl ?_
  refine wa_istore (pc' := 7) (ls' := [(5, _), (4, _), (0, _), (1, _), (2, _), (3, _)]) dJ1_indexOfChar_4cfef_5 rfl (by decide) rfl ?_
  exact l_indexOf c hc 8 0 (by decide) (by decide) (fun i hi => absurd hi (by omega))

set_option maxRecDepth 10000 in
set_option maxHeartbeats 1000000 in
theorem k_J1_indexOf_4cfef (c : Int) (hc : 65 ≤ c ∧ c ≤ 71) : zMet q_J1_indexOf_4cfef 1 0 0 [zK 40, zI c, zI 0, zI 7] [] (zD (some (zI (zidx c))) []) := by
  refine z_introF (ls := [(0, _), (1, _), (2, _), (3, _)]) (by decide +kernel) rfl (fun _ _ => rfl) (fun _ _ => Nat.le_of_ble_eq_true rfl) ?_
  refine wa_iload_n (pc' := 1) dJ1_indexOf_4cfef_0 rfl rfl rfl ?_
  refine wa_dS (pc' := 4) (w' := []) (k_J1_canEncode_9a6ad _ (by omega)) ok_J1_canEncode_9a6ad lm_J1_88 dJ1_indexOf_4cfef_1 rfl [] rfl (by decide) rfl rfl (by decide) (Nat.le_of_ble_eq_true rfl) rfl (by decide) (by decide) rfl rfl rfl ?_
  refine wa_if_ne (tgt := 9) (pc' := 7) dJ1_indexOf_4cfef_4 (by decide) rfl (by omega) (fun c4 => ?_) (fun c4 => ?_)
  · refine wa_iload_n (pc' := 10) dJ1_indexOf_4cfef_9 rfl rfl rfl ?_
    refine wa_iconst (pc' := 11) dJ1_indexOf_4cfef_10 rfl ?_
    refine wa_max (pc' := 14) dJ1_indexOf_4cfef_11 rfl lmm_J1_92 zl_max1 zl_math zl_max2 (by omega) (by omega) (by decide) (Nat.le_of_ble_eq_true rfl) (by decide) (by decide) ?_
    refine wa_istore_n (pc' := 15) (ls' := [(2, _), (0, _), (1, _), (3, _)]) dJ1_indexOf_4cfef_14 rfl rfl (by decide) rfl ?_
    refine wa_iload_n (pc' := 16) dJ1_indexOf_4cfef_15 rfl rfl rfl ?_
    refine wa_aload_n (pc' := 17) dJ1_indexOf_4cfef_16 rfl rfl rfl ?_
    refine wa_klen (N := 7) (pc' := 18) (zk_bytes (q := 10) (by decide)) dJ1_indexOf_4cfef_17 rfl ?_
    refine wa_dS (pc' := 21) (w' := []) (k_J9_min_7cf53 _ _ (by omega) (by omega) (by omega)) ok_J9_min_7cf53 lm_J1_38 dJ1_indexOf_4cfef_18 rfl [] rfl (by decide) rfl rfl (by decide) (Nat.le_of_ble_eq_true rfl) rfl (by decide) (by decide) rfl rfl rfl ?_
    refine wa_istore_n (pc' := 22) (ls' := [(3, _), (2, _), (0, _), (1, _)]) dJ1_indexOf_4cfef_21 rfl rfl (by decide) rfl ?_
    refine wa_iload_n (pc' := 23) dJ1_indexOf_4cfef_22 rfl rfl rfl ?_
    refine wa_iload_n (pc' := 24) dJ1_indexOf_4cfef_23 rfl rfl rfl ?_
    refine wa_icmp_lt (tgt := 29) (pc' := 27) dJ1_indexOf_4cfef_24 (by decide) rfl (by omega) (by omega) (fun c24 => ?_) (fun c24 => ?_)
    · refine wa_aload_n (pc' := 30) dJ1_indexOf_4cfef_29 rfl rfl rfl ?_
      refine wa_iload_n (pc' := 31) dJ1_indexOf_4cfef_30 rfl rfl rfl ?_
      refine wa_iload_n (pc' := 32) dJ1_indexOf_4cfef_31 rfl rfl rfl ?_
      refine wa_iload_n (pc' := 33) dJ1_indexOf_4cfef_32 rfl rfl rfl ?_
      refine wa_dS (pc' := 36) (w' := []) (k_J1_indexOfChar_4cfef _ (by omega)) ok_J1_indexOfChar_4cfef lm_J1_95 dJ1_indexOf_4cfef_33 rfl [] rfl (by decide) rfl rfl (by decide) (Nat.le_of_ble_eq_true rfl) rfl (by decide) (by decide) rfl rfl rfl ?_
      refine wa_iret dJ1_indexOf_4cfef_36 rfl (by decide) (by decide) ?_
      exact ⟨rfl, rfl⟩
    · exact absurd c24 (by decide)
  · exact absurd c4 (by decide)

set_option maxRecDepth 10000 in
set_option maxHeartbeats 1000000 in
theorem k_J0_indexOf_7cf53 (c : Int) (hc : 65 ≤ c ∧ c ≤ 71) : zMet q_J0_indexOf_7cf53 2 0 0 [zK 21, zI c, zI 0] [] (zD (some (zI (zidx c))) []) := by
  refine z_introF (ls := [(0, _), (1, _), (2, _)]) (by decide +kernel) rfl (fun _ _ => rfl) (fun _ _ => Nat.le_of_ble_eq_true rfl) ?_
  refine wa_aload_n (pc' := 1) dJ0_indexOf_7cf53_0 rfl rfl rfl ?_
  refine wa_dK (pc' := 4) (w' := []) (k_J0_isLatin1_aae02 10 (by decide)) ok_J0_isLatin1_aae02 lm_J0_492 dJ0_indexOf_7cf53_1 rfl [] rfl (by decide) rfl rfl (zk_str (q := 10) (by decide)) (by decide) (Nat.le_of_ble_eq_true rfl) rfl (by decide) (by decide) rfl rfl rfl ?_
  refine wa_if_eq (tgt := 23) (pc' := 7) dJ0_indexOf_7cf53_4 (by decide) rfl (by omega) (fun c4 => ?_) (fun c4 => ?_)
  · exact absurd c4 (by decide)
  · refine wa_aload_n (pc' := 8) dJ0_indexOf_7cf53_7 rfl rfl rfl ?_
    refine wa_kget (q := "") (pc' := 11) (v := zK 40) (zk_value (q := 10) (by decide)) lk_J0_9 dJ0_indexOf_7cf53_8 rfl ?_
    refine wa_iload_n (pc' := 12) dJ0_indexOf_7cf53_11 rfl rfl rfl ?_
    refine wa_iload_n (pc' := 13) dJ0_indexOf_7cf53_12 rfl rfl rfl ?_
    refine wa_aload_n (pc' := 14) dJ0_indexOf_7cf53_13 rfl rfl rfl ?_
    refine wa_dK (pc' := 17) (w' := []) (k_J0_length_8abf5 10 (by decide)) ok_J0_length_8abf5 lm_J0_505 dJ0_indexOf_7cf53_14 rfl [] rfl (by decide) rfl rfl (zk_str (q := 10) (by decide)) (by decide) (Nat.le_of_ble_eq_true rfl) rfl (by decide) (by decide) rfl rfl rfl ?_
    refine wa_dS (pc' := 20) (w' := []) (k_J1_indexOf_4cfef _ (by omega)) ok_J1_indexOf_4cfef lm_J0_637 dJ0_indexOf_7cf53_17 rfl [] rfl (by decide) rfl rfl (by decide) (Nat.le_of_ble_eq_true rfl) rfl (by decide) (by decide) rfl rfl rfl ?_
    refine wa_goto (pc' := 36) dJ0_indexOf_7cf53_20 (by decide) ?_
    refine wa_iret dJ0_indexOf_7cf53_36 rfl (by decide) (by decide) ?_
    exact ⟨rfl, rfl⟩

set_option maxRecDepth 10000 in
set_option maxHeartbeats 1000000 in
theorem k_J0_indexOf_0f7a4 (c : Int) (hc : 65 ≤ c ∧ c ≤ 71) : zMet q_J0_indexOf_0f7a4 3 0 0 [zK 21, zI c] [] (zD (some (zI (zidx c))) []) := by
  refine z_introF (ls := [(0, _), (1, _)]) (by decide +kernel) rfl (fun _ _ => rfl) (fun _ _ => Nat.le_of_ble_eq_true rfl) ?_
  refine wa_aload_n (pc' := 1) dJ0_indexOf_0f7a4_0 rfl rfl rfl ?_
  refine wa_iload_n (pc' := 2) dJ0_indexOf_0f7a4_1 rfl rfl rfl ?_
  refine wa_iconst (pc' := 3) dJ0_indexOf_0f7a4_2 rfl ?_
  refine wa_dK (pc' := 6) (w' := []) (k_J0_indexOf_7cf53 _ (by omega)) ok_J0_indexOf_7cf53 lm_J0_633 dJ0_indexOf_0f7a4_3 rfl [] rfl (by decide) rfl rfl (zk_str (q := 10) (by decide)) (by decide) (Nat.le_of_ble_eq_true rfl) rfl (by decide) (by decide) rfl rfl rfl ?_
  refine wa_iret dJ0_indexOf_0f7a4_6 rfl (by decide) (by decide) ?_
  exact ⟨rfl, rfl⟩

set_option maxRecDepth 10000 in
set_option maxHeartbeats 1000000 in
theorem k_J6_bitCount_0f7a4 (n : Nat) (h : n < 4096) : zMet q_J6_bitCount_0f7a4 0 0 0 [zI n] [] (zD (some (zI (zpop n))) []) := by
  refine z_introF (ls := [(0, _)]) (by decide +kernel) rfl (fun _ _ => rfl) (fun _ _ => Nat.le_of_ble_eq_true rfl) ?_
  refine wa_iload_n (pc' := 1) dJ6_bitCount_0f7a4_0 rfl rfl rfl ?_
  refine wa_iload_n (pc' := 2) dJ6_bitCount_0f7a4_1 rfl rfl rfl ?_
  refine wa_iconst (pc' := 3) dJ6_bitCount_0f7a4_2 rfl ?_
  refine wa_iushr (pc' := 4) dJ6_bitCount_0f7a4_3 rfl ?_
  refine wa_ldcIw (pc' := 7) (n := 1431655765) dJ6_bitCount_0f7a4_4 rfl ki_J6_265 ?_
  refine wa_iand (pc' := 8) dJ6_bitCount_0f7a4_7 rfl ?_
  refine wa_isub (pc' := 9) dJ6_bitCount_0f7a4_8 rfl ?_
  refine wa_istore_n (pc' := 10) (ls' := [(0, _)]) dJ6_bitCount_0f7a4_9 rfl rfl (by decide) rfl ?_
  refine wa_iload_n (pc' := 11) dJ6_bitCount_0f7a4_10 rfl rfl rfl ?_
  refine wa_ldcIw (pc' := 14) (n := 858993459) dJ6_bitCount_0f7a4_11 rfl ki_J6_266 ?_
  refine wa_iand (pc' := 15) dJ6_bitCount_0f7a4_14 rfl ?_
  refine wa_iload_n (pc' := 16) dJ6_bitCount_0f7a4_15 rfl rfl rfl ?_
  refine wa_iconst (pc' := 17) dJ6_bitCount_0f7a4_16 rfl ?_
  refine wa_iushr (pc' := 18) dJ6_bitCount_0f7a4_17 rfl ?_
  refine wa_ldcIw (pc' := 21) (n := 858993459) dJ6_bitCount_0f7a4_18 rfl ki_J6_266 ?_
  refine wa_iand (pc' := 22) dJ6_bitCount_0f7a4_21 rfl ?_
  refine wa_iadd (pc' := 23) dJ6_bitCount_0f7a4_22 rfl ?_
  refine wa_istore_n (pc' := 24) (ls' := [(0, _)]) dJ6_bitCount_0f7a4_23 rfl rfl (by decide) rfl ?_
  refine wa_iload_n (pc' := 25) dJ6_bitCount_0f7a4_24 rfl rfl rfl ?_
  refine wa_iload_n (pc' := 26) dJ6_bitCount_0f7a4_25 rfl rfl rfl ?_
  refine wa_iconst (pc' := 27) dJ6_bitCount_0f7a4_26 rfl ?_
  refine wa_iushr (pc' := 28) dJ6_bitCount_0f7a4_27 rfl ?_
  refine wa_iadd (pc' := 29) dJ6_bitCount_0f7a4_28 rfl ?_
  refine wa_ldcIw (pc' := 32) (n := 252645135) dJ6_bitCount_0f7a4_29 rfl ki_J6_267 ?_
  refine wa_iand (pc' := 33) dJ6_bitCount_0f7a4_32 rfl ?_
  refine wa_istore_n (pc' := 34) (ls' := [(0, _)]) dJ6_bitCount_0f7a4_33 rfl rfl (by decide) rfl ?_
  refine wa_iload_n (pc' := 35) dJ6_bitCount_0f7a4_34 rfl rfl rfl ?_
  refine wa_iload_n (pc' := 36) dJ6_bitCount_0f7a4_35 rfl rfl rfl ?_
  refine wa_bipush (pc' := 38) dJ6_bitCount_0f7a4_36 rfl rfl ?_
  refine wa_iushr (pc' := 39) dJ6_bitCount_0f7a4_38 rfl ?_
  refine wa_iadd (pc' := 40) dJ6_bitCount_0f7a4_39 rfl ?_
  refine wa_istore_n (pc' := 41) (ls' := [(0, _)]) dJ6_bitCount_0f7a4_40 rfl rfl (by decide) rfl ?_
  refine wa_iload_n (pc' := 42) dJ6_bitCount_0f7a4_41 rfl rfl rfl ?_
  refine wa_iload_n (pc' := 43) dJ6_bitCount_0f7a4_42 rfl rfl rfl ?_
  refine wa_bipush (pc' := 45) dJ6_bitCount_0f7a4_43 rfl rfl ?_
  refine wa_iushr (pc' := 46) dJ6_bitCount_0f7a4_45 rfl ?_
  refine wa_iadd (pc' := 47) dJ6_bitCount_0f7a4_46 rfl ?_
  refine wa_istore_n (pc' := 48) (ls' := [(0, _)]) dJ6_bitCount_0f7a4_47 rfl rfl (by decide) rfl ?_
  refine wa_iload_n (pc' := 49) dJ6_bitCount_0f7a4_48 rfl rfl rfl ?_
  refine wa_bipush (pc' := 51) dJ6_bitCount_0f7a4_49 rfl rfl ?_
  refine wa_iand (pc' := 52) dJ6_bitCount_0f7a4_51 rfl ?_
  refine wa_iret dJ6_bitCount_0f7a4_52 rfl (by decide) (by decide) ?_
  exact zD_i (congrArg (fun x => some (zI x)) (zbc h)) rfl

