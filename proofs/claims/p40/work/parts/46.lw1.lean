/-! the law's methods on numbers -/
theorem zin_x (x : Int32) : zin x.toInt := ⟨by have := Int32.le_toInt x; omega, by have := Int32.toInt_lt x; omega⟩
theorem zin_and (a b : Int) : zin (zand a b) := zin_x _
theorem zin_shr (a b : Int) : zin (zshr a b) := zin_x _
theorem zwrI (a : Int) : Int32.ofInt a = Int32.ofInt (Int32.ofInt a).toInt := (Int32.ofInt_toInt _).symm
theorem ofI_le (N : Nat) : (Int32.ofInt (N : Int)).toInt ≤ N := by
  have h1 : (Int32.ofInt (N : Int)).toInt = (N : Int).bmod 4294967296 := by rw [Int32.toInt_ofInt]
  rw [h1, Int.bmod_def]
  split <;> omega
theorem upA_b (x : Int) : 0 ≤ zand x 2147483647 ∧ zand x 2147483647 ≤ 2147483647 := by
  have e2 : (Int32.ofInt 2147483647).toBitVec.toNat = 2147483647 := by decide
  have e3 : ((Int32.ofInt x &&& Int32.ofInt 2147483647).toBitVec).toNat ≤ (Int32.ofInt 2147483647).toBitVec.toNat := by
    rw [Int32.toBitVec_and, BitVec.toNat_and]
    exact Nat.and_le_right
  unfold zand
  have h3 : (Int32.ofInt x &&& Int32.ofInt 2147483647).toInt = (Int32.ofInt x &&& Int32.ofInt 2147483647).toBitVec.toInt := rfl
  rw [BitVec.toInt_eq_toNat_cond] at h3
  split at h3 <;> omega
def upF (x m : Int) : Int := (zand x 2147483647).tmod m
theorem upF_b (x : Int) {m : Int} (hm : 0 < m) : 0 ≤ upF x m ∧ upF x m < m := by
  have h1 := upA_b x
  unfold upF
  rw [z_tmod_pos h1.1]
  exact ⟨Int.emod_nonneg _ (by omega), Int.emod_lt_of_pos _ hm⟩
def rB (x : Int) : Int := upF x 21 - 8
def qB (x : Int) : Int := upF (zshr x 5) 10
def bB (x : Int) : Int := if zand (zshr x 9) 3 = 0 then upF (zshr x 11) 21 - 8 else 100
theorem rB_b (x : Int) : -8 ≤ rB x ∧ rB x ≤ 12 := by
  have := upF_b x (m := 21) (by decide)
  unfold rB
  omega
theorem qB_b (x : Int) : 0 ≤ qB x ∧ qB x < 10 := upF_b _ (by decide)
theorem bB_b (x : Int) : bB x = 100 ∨ (-8 ≤ bB x ∧ bB x ≤ 12) := by
  have := upF_b (zshr x 11) (m := 21) (by decide)
  unfold bB
  split <;> omega
def qlL (q : Int) : Int := [0, 109, 55, 27959, 1835100727, 6580589, 6387047, 1937077044, 54, 57].getD q.toNat 0
theorem okC_t {t nm : zRw} {s D : zSh} {H : Nat → zSh} {ol ct : Int} {k : zKd} {y : zLy} {si fl wi : Int} (h : okC (t, nm, s, D, H, ol, ct, k, y, si, fl, wi)) {t1 : zRw} (ht : okT t1) : okC (t1, nm, s, D, H, ol, ct, k, y, si, fl, wi) := ⟨ht, h.2⟩
theorem e_type {t nm : zRw} {s D : zSh} {H : Nat → zSh} {ol ct : Int} {k : zKd} {y : zLy} {si fl wi : Int} {c : Int} (hc : 32 ≤ c ∧ c ≤ 126) (ht : t.1 < 200) : cs_type c (t, nm, s, D, H, ol, ct, k, y, si, fl, wi) = (.inl (some (zI (t.1 + 1))), (rA t c, nm, s, D, H, ol, ct, k, y, si, fl, wi)) := by
  show (if c < 32 ∨ 126 < c then _ else if 200 ≤ t.1 then _ else _) = _
  rw [if_neg (show ¬ (c < 32 ∨ 126 < c) by omega), if_neg (show ¬ 200 ≤ t.1 by omega)]
set_option maxRecDepth 10000 in
set_option maxHeartbeats 2000000 in
theorem k_L_up (x m : Int) (hm : 0 < m ∧ m ≤ 1000) : zMet q_L_up 0 0 0 [zI x, zI m] [] (zD (some (zI (upF x m))) []) := by
  refine z_introF (ls := [(0, _), (1, _)]) (by decide +kernel) rfl (fun _ _ => rfl) (fun _ _ => Nat.le_of_ble_eq_true rfl) ?_
  have ha := upA_b x
  refine wa_iload_n (pc' := 1) dL_up_0 rfl rfl rfl ?_
  refine wa_ldcI (pc' := 3) (n := 2147483647) dL_up_1 rfl ki_L_8 ?_
  refine wa_iand (pc' := 4) dL_up_3 rfl ?_
  refine wa_iload_n (pc' := 5) dL_up_4 rfl rfl rfl ?_
  refine wa_irem (pc' := 6) dL_up_5 rfl ⟨by omega, by omega⟩ ⟨by omega, by omega⟩ (by omega) (z_tdiv ⟨by omega, by omega⟩ (by omega)) ?_
  refine wa_iret dL_up_6 rfl (by decide) (by decide) ?_
  exact zD_i rfl rfl

set_option maxRecDepth 10000 in
set_option maxHeartbeats 2000000 in
theorem k_L_pitch (p : Int) (hp : -1000 ≤ p ∧ p ≤ 1000) : zMet q_L_pitch 0 0 0 [zI p] [] (zD (some (zI (pcl p))) []) := by
  refine z_introF (ls := [(0, _)]) (by decide +kernel) rfl (fun _ _ => rfl) (fun _ _ => Nat.le_of_ble_eq_true rfl) ?_
  have h1 := tmod12_b (7 * p)
  refine wa_bipush (pc' := 2) dL_pitch_0 rfl rfl ?_
  refine wa_iload_n (pc' := 3) dL_pitch_2 rfl rfl rfl ?_
  refine wa_imul (pc' := 4) dL_pitch_3 rfl ?_
  refine wa_bipush (pc' := 6) dL_pitch_4 rfl rfl ?_
  refine wa_irem (pc' := 7) dL_pitch_6 rfl (by omega) (by omega) (by omega) (z_tdiv (by omega) (by omega)) ?_
  refine wa_bipush (pc' := 9) dL_pitch_7 rfl rfl ?_
  refine wa_iadd (pc' := 10) dL_pitch_9 rfl ?_
  refine wa_bipush (pc' := 12) dL_pitch_10 rfl rfl ?_
  refine wa_irem (pc' := 13) dL_pitch_12 rfl (by omega) (by omega) (by omega) (z_tdiv (by omega) (by omega)) ?_
  refine wa_iret dL_pitch_13 rfl (by decide) (by decide) ?_
  exact zD_i (congrArg (fun x => some (zI x)) (tmod12 (7 * p))) rfl

set_option maxRecDepth 10000 in
set_option maxHeartbeats 2000000 in
theorem k_L_letter (p : Int) (hp : -1000 ≤ p ∧ p ≤ 1000) : zMet q_L_letter 0 0 0 [zI p] [] (zD (some (zI (leC p))) []) := by
  refine z_introF (ls := [(0, _)]) (by decide +kernel) rfl (fun _ _ => rfl) (fun _ _ => Nat.le_of_ble_eq_true rfl) ?_
  refine wa_iload_n (pc' := 1) dL_letter_0 rfl rfl rfl ?_
  refine wa_iconst (pc' := 2) dL_letter_1 rfl ?_
  refine wa_icmp_ne (tgt := 10) (pc' := 5) dL_letter_2 (by decide) rfl (by omega) (by omega) (fun c2 => ?_) (fun c2 => ?_)
  · refine wa_iload_n (pc' := 11) dL_letter_10 rfl rfl rfl ?_
    refine wa_if_ne (tgt := 19) (pc' := 14) dL_letter_11 (by decide) rfl (by omega) (fun c11 => ?_) (fun c11 => ?_)
    · refine wa_iload_n (pc' := 20) dL_letter_19 rfl rfl rfl ?_
      refine wa_iconst (pc' := 21) dL_letter_20 rfl ?_
      refine wa_icmp_ne (tgt := 29) (pc' := 24) dL_letter_21 (by decide) rfl (by omega) (by omega) (fun c21 => ?_) (fun c21 => ?_)
      · refine wa_iload_n (pc' := 30) dL_letter_29 rfl rfl rfl ?_
        refine wa_iconst (pc' := 31) dL_letter_30 rfl ?_
        refine wa_icmp_ne (tgt := 39) (pc' := 34) dL_letter_31 (by decide) rfl (by omega) (by omega) (fun c31 => ?_) (fun c31 => ?_)
        · refine wa_iload_n (pc' := 40) dL_letter_39 rfl rfl rfl ?_
          refine wa_iconst (pc' := 41) dL_letter_40 rfl ?_
          refine wa_icmp_ne (tgt := 49) (pc' := 44) dL_letter_41 (by decide) rfl (by omega) (by omega) (fun c41 => ?_) (fun c41 => ?_)
          · refine wa_iload_n (pc' := 50) dL_letter_49 rfl rfl rfl ?_
            refine wa_iconst (pc' := 51) dL_letter_50 rfl ?_
            refine wa_icmp_ne (tgt := 59) (pc' := 54) dL_letter_51 (by decide) rfl (by omega) (by omega) (fun c51 => ?_) (fun c51 => ?_)
            · refine wa_bipush (pc' := 61) dL_letter_59 rfl rfl ?_
              refine wa_iret dL_letter_61 rfl (by decide) (by decide) ?_
              exact zD_i (by unfold leC; (repeat' split) <;> first | rfl | omega) rfl
            · refine wa_bipush (pc' := 56) dL_letter_54 rfl rfl ?_
              refine wa_goto (pc' := 61) dL_letter_56 (by decide) ?_
              refine wa_iret dL_letter_61 rfl (by decide) (by decide) ?_
              exact zD_i (by unfold leC; (repeat' split) <;> first | rfl | omega) rfl
          · refine wa_bipush (pc' := 46) dL_letter_44 rfl rfl ?_
            refine wa_goto (pc' := 61) dL_letter_46 (by decide) ?_
            refine wa_iret dL_letter_61 rfl (by decide) (by decide) ?_
            exact zD_i (by unfold leC; (repeat' split) <;> first | rfl | omega) rfl
        · refine wa_bipush (pc' := 36) dL_letter_34 rfl rfl ?_
          refine wa_goto (pc' := 61) dL_letter_36 (by decide) ?_
          refine wa_iret dL_letter_61 rfl (by decide) (by decide) ?_
          exact zD_i (by unfold leC; (repeat' split) <;> first | rfl | omega) rfl
      · refine wa_bipush (pc' := 26) dL_letter_24 rfl rfl ?_
        refine wa_goto (pc' := 61) dL_letter_26 (by decide) ?_
        refine wa_iret dL_letter_61 rfl (by decide) (by decide) ?_
        exact zD_i (by unfold leC; (repeat' split) <;> first | rfl | omega) rfl
    · refine wa_bipush (pc' := 16) dL_letter_14 rfl rfl ?_
      refine wa_goto (pc' := 61) dL_letter_16 (by decide) ?_
      refine wa_iret dL_letter_61 rfl (by decide) (by decide) ?_
      exact zD_i (by unfold leC; (repeat' split) <;> first | rfl | omega) rfl
  · refine wa_bipush (pc' := 7) dL_letter_5 rfl rfl ?_
    refine wa_goto (pc' := 61) dL_letter_7 (by decide) ?_
    refine wa_iret dL_letter_61 rfl (by decide) (by decide) ?_
    exact zD_i (by unfold leC; (repeat' split) <;> first | rfl | omega) rfl

set_option maxRecDepth 10000 in
theorem k_L_quality (q : Int) (hq : 0 ≤ q ∧ q < 10) : zMet q_L_quality 0 0 0 [zI q] [] (zD (some (zJ (qlL q))) []) := by
  refine z_introF (ls := [(0, zI q)]) (by decide +kernel) rfl (fun _ _ => rfl) (fun _ _ => Nat.le_of_ble_eq_true rfl) ?_
  rcases (show q = 0 ∨ q = 1 ∨ q = 2 ∨ q = 3 ∨ q = 4 ∨ q = 5 ∨ q = 6 ∨ q = 7 ∨ q = 8 ∨ q = 9 by omega) with rfl | rfl | rfl | rfl | rfl | rfl | rfl | rfl | rfl | rfl
  · refine wa_iload_n (pc' := 1) dL_quality_0 rfl rfl rfl ?_
    refine wa_tabIn (tgt := 52) dL_quality_1 (by decide) (by decide) (by decide) rfl (by decide) ?_
    refine wa_lconst0 (pc' := 53) dL_quality_52 rfl ?_
    refine wa_lret dL_quality_53 rfl (by decide) (by decide) ?_
    exact zD_i rfl rfl
  · refine wa_iload_n (pc' := 1) dL_quality_0 rfl rfl rfl ?_
    refine wa_tabIn (tgt := 54) dL_quality_1 (by decide) (by decide) (by decide) rfl (by decide) ?_
    refine wa_ldc2 (pc' := 57) (n := 109) dL_quality_54 rfl kl_L_20 ?_
    refine wa_lret dL_quality_57 rfl (by decide) (by decide) ?_
    exact zD_i rfl rfl
  · refine wa_iload_n (pc' := 1) dL_quality_0 rfl rfl rfl ?_
    refine wa_tabIn (tgt := 58) dL_quality_1 (by decide) (by decide) (by decide) rfl (by decide) ?_
    refine wa_ldc2 (pc' := 61) (n := 55) dL_quality_58 rfl kl_L_22 ?_
    refine wa_lret dL_quality_61 rfl (by decide) (by decide) ?_
    exact zD_i rfl rfl
  · refine wa_iload_n (pc' := 1) dL_quality_0 rfl rfl rfl ?_
    refine wa_tabIn (tgt := 62) dL_quality_1 (by decide) (by decide) (by decide) rfl (by decide) ?_
    refine wa_ldc2 (pc' := 65) (n := 27959) dL_quality_62 rfl kl_L_24 ?_
    refine wa_lret dL_quality_65 rfl (by decide) (by decide) ?_
    exact zD_i rfl rfl
  · refine wa_iload_n (pc' := 1) dL_quality_0 rfl rfl rfl ?_
    refine wa_tabIn (tgt := 66) dL_quality_1 (by decide) (by decide) (by decide) rfl (by decide) ?_
    refine wa_ldc2 (pc' := 69) (n := 1835100727) dL_quality_66 rfl kl_L_26 ?_
    refine wa_lret dL_quality_69 rfl (by decide) (by decide) ?_
    exact zD_i rfl rfl
  · refine wa_iload_n (pc' := 1) dL_quality_0 rfl rfl rfl ?_
    refine wa_tabIn (tgt := 70) dL_quality_1 (by decide) (by decide) (by decide) rfl (by decide) ?_
    refine wa_ldc2 (pc' := 73) (n := 6580589) dL_quality_70 rfl kl_L_28 ?_
    refine wa_lret dL_quality_73 rfl (by decide) (by decide) ?_
    exact zD_i rfl rfl
  · refine wa_iload_n (pc' := 1) dL_quality_0 rfl rfl rfl ?_
    refine wa_tabIn (tgt := 74) dL_quality_1 (by decide) (by decide) (by decide) rfl (by decide) ?_
    refine wa_ldc2 (pc' := 77) (n := 6387047) dL_quality_74 rfl kl_L_30 ?_
    refine wa_lret dL_quality_77 rfl (by decide) (by decide) ?_
    exact zD_i rfl rfl
  · refine wa_iload_n (pc' := 1) dL_quality_0 rfl rfl rfl ?_
    refine wa_tabIn (tgt := 78) dL_quality_1 (by decide) (by decide) (by decide) rfl (by decide) ?_
    refine wa_ldc2 (pc' := 81) (n := 1937077044) dL_quality_78 rfl kl_L_32 ?_
    refine wa_lret dL_quality_81 rfl (by decide) (by decide) ?_
    exact zD_i rfl rfl
  · refine wa_iload_n (pc' := 1) dL_quality_0 rfl rfl rfl ?_
    refine wa_tabIn (tgt := 82) dL_quality_1 (by decide) (by decide) (by decide) rfl (by decide) ?_
    refine wa_ldc2 (pc' := 85) (n := 54) dL_quality_82 rfl kl_L_34 ?_
    refine wa_lret dL_quality_85 rfl (by decide) (by decide) ?_
    exact zD_i rfl rfl
  · refine wa_iload_n (pc' := 1) dL_quality_0 rfl rfl rfl ?_
    refine wa_tabOut (tgt := 86) dL_quality_1 (by decide) (by decide) (by decide) ?_
    refine wa_ldc2 (pc' := 89) (n := 57) dL_quality_86 rfl kl_L_36 ?_
    refine wa_lret dL_quality_89 rfl (by decide) (by decide) ?_
    exact zD_i rfl rfl

set_option maxRecDepth 10000 in
set_option maxHeartbeats 2000000 in
theorem k_L_rootBy (x : Int) : zMet q_L_rootBy 1 0 0 [zI x] [] (zD (some (zI (rB x))) []) := by
  refine z_introF (ls := [(0, _)]) (by decide +kernel) rfl (fun _ _ => rfl) (fun _ _ => Nat.le_of_ble_eq_true rfl) ?_
  refine wa_iload_n (pc' := 1) dL_rootBy_0 rfl rfl rfl ?_
  refine wa_bipush (pc' := 3) dL_rootBy_1 rfl rfl ?_
  refine wx_n (pc' := 6) (k_L_up x 21 ⟨by decide, by decide⟩) rfl ok_L_up lm_L_38 dL_rootBy_3 rfl rfl rfl (Nat.le_of_ble_eq_true rfl) (Nat.le_of_ble_eq_true rfl) rfl (by omega) (by omega) ?_
  refine wa_bipush (pc' := 8) dL_rootBy_6 rfl rfl ?_
  refine wa_isub (pc' := 9) dL_rootBy_8 rfl ?_
  refine wa_iret dL_rootBy_9 rfl (by decide) (by decide) ?_
  exact zD_i rfl rfl

set_option maxRecDepth 10000 in
set_option maxHeartbeats 2000000 in
theorem k_L_qualityBy (x : Int) : zMet q_L_qualityBy 1 0 0 [zI x] [] (zD (some (zI (qB x))) []) := by
  refine z_introF (ls := [(0, _)]) (by decide +kernel) rfl (fun _ _ => rfl) (fun _ _ => Nat.le_of_ble_eq_true rfl) ?_
  refine wa_iload_n (pc' := 1) dL_qualityBy_0 rfl rfl rfl ?_
  refine wa_iconst (pc' := 2) dL_qualityBy_1 rfl ?_
  refine wa_ishr (pc' := 3) dL_qualityBy_2 rfl ?_
  refine wa_bipush (pc' := 5) dL_qualityBy_3 rfl rfl ?_
  refine wx_n (pc' := 8) (k_L_up (zshr x 5) 10 ⟨by decide, by decide⟩) rfl ok_L_up lm_L_38 dL_qualityBy_5 rfl rfl rfl (Nat.le_of_ble_eq_true rfl) (Nat.le_of_ble_eq_true rfl) rfl (by omega) (by omega) ?_
  refine wa_iret dL_qualityBy_8 rfl (by decide) (by decide) ?_
  exact zD_i rfl rfl

set_option maxRecDepth 10000 in
set_option maxHeartbeats 2000000 in
theorem k_L_bassBy (x : Int) : zMet q_L_bassBy 1 0 0 [zI x] [] (zD (some (zI (bB x))) []) := by
  refine z_introF (ls := [(0, _)]) (by decide +kernel) rfl (fun _ _ => rfl) (fun _ _ => Nat.le_of_ble_eq_true rfl) ?_
  have hz := zin_and (zshr x 9) 3
  refine wa_iload_n (pc' := 1) dL_bassBy_0 rfl rfl rfl ?_
  refine wa_bipush (pc' := 3) dL_bassBy_1 rfl rfl ?_
  refine wa_ishr (pc' := 4) dL_bassBy_3 rfl ?_
  refine wa_iconst (pc' := 5) dL_bassBy_4 rfl ?_
  refine wa_iand (pc' := 6) dL_bassBy_5 rfl ?_
  refine wa_if_ne (tgt := 24) (pc' := 9) dL_bassBy_6 (by decide) rfl (by omega) (fun c6 => ?_) (fun c6 => ?_)
  · refine wa_bipush (pc' := 26) dL_bassBy_24 rfl rfl ?_
    refine wa_iret dL_bassBy_26 rfl (by decide) (by decide) ?_
    first | exact zD_i (by rw [bB, if_pos (by omega)]) rfl | exact zD_i (by rw [bB, if_neg (by omega)]) rfl
  · refine wa_iload_n (pc' := 10) dL_bassBy_9 rfl rfl rfl ?_
    refine wa_bipush (pc' := 12) dL_bassBy_10 rfl rfl ?_
    refine wa_ishr (pc' := 13) dL_bassBy_12 rfl ?_
    refine wa_bipush (pc' := 15) dL_bassBy_13 rfl rfl ?_
    refine wx_n (pc' := 18) (k_L_up (zshr x 11) 21 ⟨by decide, by decide⟩) rfl ok_L_up lm_L_38 dL_bassBy_15 rfl rfl rfl (Nat.le_of_ble_eq_true rfl) (Nat.le_of_ble_eq_true rfl) rfl (by omega) (by omega) ?_
    refine wa_bipush (pc' := 20) dL_bassBy_18 rfl rfl ?_
    refine wa_isub (pc' := 21) dL_bassBy_20 rfl ?_
    refine wa_goto (pc' := 26) dL_bassBy_21 (by decide) ?_
    refine wa_iret dL_bassBy_26 rfl (by decide) (by decide) ?_
    first | exact zD_i (by rw [bB, if_pos (by omega)]) rfl | exact zD_i (by rw [bB, if_neg (by omega)]) rfl

set_option maxRecDepth 10000 in
theorem k_L_cell (i : Int) (hi : 0 ≤ i ∧ i ≤ 1000) : zMet q_L_cell 0 0 0 [zK 50, zI i] [] (fun o w' => w' = [] ∧ ∃ a, zin a ∧ o = .inl (some (zI a))) := by
  refine z_introF (ls := [(0, zK 50), (1, zI i)]) (by decide +kernel) rfl (fun _ _ => rfl) (fun _ _ => Nat.le_of_ble_eq_true rfl) ?_
  refine wa_S (fun N xs => ?_)
  refine wl_iload_n (pc' := 1) dL_cell_0 rfl rfl rfl ?_
  refine wl_aload_n (pc' := 2) dL_cell_1 rfl rfl rfl ?_
  refine wl_slen (pc' := 3) dL_cell_2 rfl ?_
  refine wl_wrap (zwrI _) ?_
  have hN := ofI_le N
  refine wl_icmp_ge (tgt := 12) (pc' := 6) dL_cell_3 (by decide) rfl ⟨by omega, by omega⟩ (zin_x _) (fun c => ?_) (fun c => ?_)
  · refine wl_ldcI (pc' := 14) (n := 763049417) dL_cell_12 rfl ki_L_7 ?_
    refine wl_iload_n (pc' := 15) dL_cell_14 rfl rfl rfl ?_
    refine wl_iconst (pc' := 16) dL_cell_15 rfl ?_
    refine wl_iadd (pc' := 17) dL_cell_16 rfl ?_
    refine wl_imul (pc' := 18) dL_cell_17 rfl ?_
    refine wl_wrap (zwrI _) ?_
    exact wl_iret dL_cell_18 rfl (by decide) (by decide) ⟨rfl, _, zin_x _, rfl⟩
  · refine wl_aload_n (pc' := 7) dL_cell_6 rfl rfl rfl ?_
    refine wl_iload_n (pc' := 8) dL_cell_7 rfl rfl rfl ?_
    refine wl_sload (pc' := 9) dL_cell_8 rfl ⟨by omega, by omega⟩ hi.1 (by omega) ?_
    refine wl_goto (pc' := 18) dL_cell_9 (by decide) ?_
    exact wl_iret dL_cell_18 rfl (by decide) (by decide) ⟨rfl, _, zin_x _, rfl⟩
/-! what it types -/
def wdB (L : Int) (m : Nat) : Int := zand (zl2i (zlushr L (8 * m))) 255
def wdR (L : Int) : Nat → zRw → zRw
  | 0, r => r
  | m + 1, r => wdR L m (if 0 < wdB L m then rA r (wdB L m) else r)
def wdS (L : Int) : Nat → List Int
  | 0 => []
  | m + 1 => (if 0 < wdB L m then [wdB L m] else []) ++ wdS L m
theorem wdR_S (L : Int) : ∀ (m : Nat) (r : zRw), wdR L m r = rL r (wdS L m)
  | 0, r => rfl
  | m + 1, r => by
    rw [wdR, wdS, wdR_S L m, rL_app]
    split <;> rfl
theorem wd_all : (List.range 10).all (fun q => decide (wdS (qlL q) 8 = zBytes.getD q []) && (List.range 8).all fun m => decide (wdB (qlL q) m ≤ 0 ∨ (32 ≤ wdB (qlL q) m ∧ wdB (qlL q) m ≤ 126))) = true := by decide +kernel
theorem wd_q {q : Int} (hq : 0 ≤ q ∧ q < 10) : wdS (qlL q) 8 = zBytes.getD q.toNat [] ∧ ∀ m : Nat, m < 8 → (wdB (qlL q) m ≤ 0 ∨ (32 ≤ wdB (qlL q) m ∧ wdB (qlL q) m ≤ 126)) := by
  have h1 := List.all_eq_true.mp wd_all q.toNat (List.mem_range.mpr (by omega))
  rw [Bool.and_eq_true] at h1
  have h2 := of_decide_eq_true h1.1
  rw [show ((q.toNat : Nat) : Int) = q by omega] at h2 h1
  exact ⟨h2, fun m hm => of_decide_eq_true (List.all_eq_true.mp h1.2 m (List.mem_range.mpr hm))⟩
set_option maxRecDepth 10000 in
set_option maxHeartbeats 2000000 in
theorem k_L_note (t nm : zRw) (s D : zSh) (H : Nat → zSh) (ol ct : Int) (k : zKd) (y : zLy) (si fl wi : Int) (h : okC (t, nm, s, D, H, ol, ct, k, y, si, fl, wi)) (p : Int) (hp : -8 ≤ p ∧ p ≤ 12) (ht : t.1 + 2 ≤ 200) : zMet q_L_note 8 2 12 [zR 0, zI p] (wCS (t, nm, s, D, H, ol, ct, k, y, si, fl, wi)) (zLP fun v c => v = zI (rL t (ntT p)).1 ∧ c = (rL t (ntT p), nm, s, D, H, ol, ct, k, y, si, fl, wi)) := by
  refine z_introF (ls := [(0, zR 0), (1, zI p)]) (by decide +kernel) rfl (fun _ _ => rfl) (fun _ _ => Nat.le_of_ble_eq_true rfl) ?_
  by_cases c1 : p < -1
  · have e : ntT p = [leC (p + 7), 98] := by unfold ntT plN; rw [if_pos c1, if_pos c1]
    rw [e]
    have hl := leC_b (p + 7)
    have h1 : okC (rA t (leC (p + 7)), nm, s, D, H, ol, ct, k, y, si, fl, wi) := okC_t h (okT_rA h.1 (by omega) (by omega))
    refine wa_iload_n (pc' := 1) dL_note_0 rfl rfl rfl ?_
    refine wa_iconst (pc' := 2) dL_note_1 rfl ?_
    refine wa_icmp_ge (tgt := 12) (pc' := 5) dL_note_2 (by decide) rfl (by omega) (by omega) (fun c2 => ?_) (fun c2 => ?_)
    · exact absurd c2 (by omega)
    · refine wa_iload_n (pc' := 6) dL_note_5 rfl rfl rfl ?_
      refine wa_bipush (pc' := 8) dL_note_6 rfl rfl ?_
      refine wa_iadd (pc' := 9) dL_note_8 rfl ?_
      refine wa_goto (pc' := 25) dL_note_9 (by decide) ?_
      refine wa_istore_n (pc' := 26) (ls' := [(2, _), (0, _), (1, _)]) dL_note_25 rfl rfl (by decide) rfl ?_
      refine wa_aload_n (pc' := 27) dL_note_26 rfl rfl rfl ?_
      refine wa_iload_n (pc' := 28) dL_note_27 rfl rfl rfl ?_
      refine wx_n (pc' := 31) (k_L_letter (p + 7) ⟨by omega, by omega⟩) rfl ok_L_letter lm_L_9 dL_note_28 rfl rfl rfl (Nat.le_of_ble_eq_true rfl) (Nat.le_of_ble_eq_true rfl) rfl (by omega) (by omega) ?_
      refine wy_x (pc' := 34) (c0 := (t, nm, s, D, H, ol, ct, k, y, si, fl, wi)) (c1 := (rA t (leC (p + 7)), nm, s, D, H, ol, ct, k, y, si, fl, wi)) (k_X9_type t nm s D H ol ct k y si fl wi h (leC (p + 7)) ⟨by omega, by omega⟩) (e_type (by omega) (by omega)) rfl ok_X9_type lm_L_15 dL_note_31 rfl rfl rfl rfl rfl (Nat.le_of_ble_eq_true rfl) (Nat.le_of_ble_eq_true rfl) rfl (by omega) (by omega) ?_
      refine wa_istore_n (pc' := 35) (ls' := [(3, _), (2, _), (0, _), (1, _)]) dL_note_34 rfl rfl (by decide) rfl ?_
      refine wa_iload_n (pc' := 36) dL_note_35 rfl rfl rfl ?_
      refine wa_iconst (pc' := 37) dL_note_36 rfl ?_
      refine wa_icmp_ge (tgt := 49) (pc' := 40) dL_note_37 (by decide) rfl (by omega) (by omega) (fun c37 => ?_) (fun c37 => ?_)
      · exact absurd c37 (by omega)
      · refine wa_aload_n (pc' := 41) dL_note_40 rfl rfl rfl ?_
        refine wa_bipush (pc' := 43) dL_note_41 rfl rfl ?_
        refine wy_x (pc' := 46) (c0 := (rA t (leC (p + 7)), nm, s, D, H, ol, ct, k, y, si, fl, wi)) (c1 := (rA (rA t (leC (p + 7))) 98, nm, s, D, H, ol, ct, k, y, si, fl, wi)) (k_X9_type (rA t (leC (p + 7))) nm s D H ol ct k y si fl wi h1 98 ⟨by omega, by omega⟩) (e_type (by omega) (by show t.1 + 1 < 200; omega)) rfl ok_X9_type lm_L_15 dL_note_43 rfl rfl rfl rfl rfl (Nat.le_of_ble_eq_true rfl) (Nat.le_of_ble_eq_true rfl) rfl (by omega) (by omega) ?_
        refine wa_goto (pc' := 64) dL_note_46 (by decide) ?_
        refine wa_iret dL_note_64 rfl (by decide) (by decide) ?_
        exact zLP_i ⟨rfl, rfl⟩ rfl
  · by_cases c2 : 5 < p
    · have e : ntT p = [leC (p - 7), 35] := by unfold ntT plN; rw [if_neg c1, if_neg c1, if_pos c2, if_pos c2]
      rw [e]
      have hl := leC_b (p - 7)
      have h1 : okC (rA t (leC (p - 7)), nm, s, D, H, ol, ct, k, y, si, fl, wi) := okC_t h (okT_rA h.1 (by omega) (by omega))
      refine wa_iload_n (pc' := 1) dL_note_0 rfl rfl rfl ?_
      refine wa_iconst (pc' := 2) dL_note_1 rfl ?_
      refine wa_icmp_ge (tgt := 12) (pc' := 5) dL_note_2 (by decide) rfl (by omega) (by omega) (fun c2 => ?_) (fun c2 => ?_)
      · refine wa_iload_n (pc' := 13) dL_note_12 rfl rfl rfl ?_
        refine wa_iconst (pc' := 14) dL_note_13 rfl ?_
        refine wa_icmp_le (tgt := 24) (pc' := 17) dL_note_14 (by decide) rfl (by omega) (by omega) (fun c14 => ?_) (fun c14 => ?_)
        · exact absurd c14 (by omega)
        · refine wa_iload_n (pc' := 18) dL_note_17 rfl rfl rfl ?_
          refine wa_bipush (pc' := 20) dL_note_18 rfl rfl ?_
          refine wa_isub (pc' := 21) dL_note_20 rfl ?_
          refine wa_goto (pc' := 25) dL_note_21 (by decide) ?_
          refine wa_istore_n (pc' := 26) (ls' := [(2, _), (0, _), (1, _)]) dL_note_25 rfl rfl (by decide) rfl ?_
          refine wa_aload_n (pc' := 27) dL_note_26 rfl rfl rfl ?_
          refine wa_iload_n (pc' := 28) dL_note_27 rfl rfl rfl ?_
          refine wx_n (pc' := 31) (k_L_letter (p - 7) ⟨by omega, by omega⟩) rfl ok_L_letter lm_L_9 dL_note_28 rfl rfl rfl (Nat.le_of_ble_eq_true rfl) (Nat.le_of_ble_eq_true rfl) rfl (by omega) (by omega) ?_
          refine wy_x (pc' := 34) (c0 := (t, nm, s, D, H, ol, ct, k, y, si, fl, wi)) (c1 := (rA t (leC (p - 7)), nm, s, D, H, ol, ct, k, y, si, fl, wi)) (k_X9_type t nm s D H ol ct k y si fl wi h (leC (p - 7)) ⟨by omega, by omega⟩) (e_type (by omega) (by omega)) rfl ok_X9_type lm_L_15 dL_note_31 rfl rfl rfl rfl rfl (Nat.le_of_ble_eq_true rfl) (Nat.le_of_ble_eq_true rfl) rfl (by omega) (by omega) ?_
          refine wa_istore_n (pc' := 35) (ls' := [(3, _), (2, _), (0, _), (1, _)]) dL_note_34 rfl rfl (by decide) rfl ?_
          refine wa_iload_n (pc' := 36) dL_note_35 rfl rfl rfl ?_
          refine wa_iconst (pc' := 37) dL_note_36 rfl ?_
          refine wa_icmp_ge (tgt := 49) (pc' := 40) dL_note_37 (by decide) rfl (by omega) (by omega) (fun c37 => ?_) (fun c37 => ?_)
          · refine wa_iload_n (pc' := 50) dL_note_49 rfl rfl rfl ?_
            refine wa_iconst (pc' := 51) dL_note_50 rfl ?_
            refine wa_icmp_le (tgt := 63) (pc' := 54) dL_note_51 (by decide) rfl (by omega) (by omega) (fun c51 => ?_) (fun c51 => ?_)
            · exact absurd c51 (by omega)
            · refine wa_aload_n (pc' := 55) dL_note_54 rfl rfl rfl ?_
              refine wa_bipush (pc' := 57) dL_note_55 rfl rfl ?_
              refine wy_x (pc' := 60) (c0 := (rA t (leC (p - 7)), nm, s, D, H, ol, ct, k, y, si, fl, wi)) (c1 := (rA (rA t (leC (p - 7))) 35, nm, s, D, H, ol, ct, k, y, si, fl, wi)) (k_X9_type (rA t (leC (p - 7))) nm s D H ol ct k y si fl wi h1 35 ⟨by omega, by omega⟩) (e_type (by omega) (by show t.1 + 1 < 200; omega)) rfl ok_X9_type lm_L_15 dL_note_57 rfl rfl rfl rfl rfl (Nat.le_of_ble_eq_true rfl) (Nat.le_of_ble_eq_true rfl) rfl (by omega) (by omega) ?_
              refine wa_goto (pc' := 64) dL_note_60 (by decide) ?_
              refine wa_iret dL_note_64 rfl (by decide) (by decide) ?_
              exact zLP_i ⟨rfl, rfl⟩ rfl
          · exact absurd c37 (by omega)
      · exact absurd c2 (by omega)
    · have e : ntT p = [leC p] := by unfold ntT plN; rw [if_neg c1, if_neg c1, if_neg c2, if_neg c2]
      rw [e]
      have hl := leC_b p
      have h1 : okC (rA t (leC p), nm, s, D, H, ol, ct, k, y, si, fl, wi) := okC_t h (okT_rA h.1 (by omega) (by omega))
      refine wa_iload_n (pc' := 1) dL_note_0 rfl rfl rfl ?_
      refine wa_iconst (pc' := 2) dL_note_1 rfl ?_
      refine wa_icmp_ge (tgt := 12) (pc' := 5) dL_note_2 (by decide) rfl (by omega) (by omega) (fun c2 => ?_) (fun c2 => ?_)
      · refine wa_iload_n (pc' := 13) dL_note_12 rfl rfl rfl ?_
        refine wa_iconst (pc' := 14) dL_note_13 rfl ?_
        refine wa_icmp_le (tgt := 24) (pc' := 17) dL_note_14 (by decide) rfl (by omega) (by omega) (fun c14 => ?_) (fun c14 => ?_)
        · refine wa_iload_n (pc' := 25) dL_note_24 rfl rfl rfl ?_
          refine wa_istore_n (pc' := 26) (ls' := [(2, _), (0, _), (1, _)]) dL_note_25 rfl rfl (by decide) rfl ?_
          refine wa_aload_n (pc' := 27) dL_note_26 rfl rfl rfl ?_
          refine wa_iload_n (pc' := 28) dL_note_27 rfl rfl rfl ?_
          refine wx_n (pc' := 31) (k_L_letter p ⟨by omega, by omega⟩) rfl ok_L_letter lm_L_9 dL_note_28 rfl rfl rfl (Nat.le_of_ble_eq_true rfl) (Nat.le_of_ble_eq_true rfl) rfl (by omega) (by omega) ?_
          refine wy_x (pc' := 34) (c0 := (t, nm, s, D, H, ol, ct, k, y, si, fl, wi)) (c1 := (rA t (leC p), nm, s, D, H, ol, ct, k, y, si, fl, wi)) (k_X9_type t nm s D H ol ct k y si fl wi h (leC p) ⟨by omega, by omega⟩) (e_type (by omega) (by omega)) rfl ok_X9_type lm_L_15 dL_note_31 rfl rfl rfl rfl rfl (Nat.le_of_ble_eq_true rfl) (Nat.le_of_ble_eq_true rfl) rfl (by omega) (by omega) ?_
          refine wa_istore_n (pc' := 35) (ls' := [(3, _), (2, _), (0, _), (1, _)]) dL_note_34 rfl rfl (by decide) rfl ?_
          refine wa_iload_n (pc' := 36) dL_note_35 rfl rfl rfl ?_
          refine wa_iconst (pc' := 37) dL_note_36 rfl ?_
          refine wa_icmp_ge (tgt := 49) (pc' := 40) dL_note_37 (by decide) rfl (by omega) (by omega) (fun c37 => ?_) (fun c37 => ?_)
          · refine wa_iload_n (pc' := 50) dL_note_49 rfl rfl rfl ?_
            refine wa_iconst (pc' := 51) dL_note_50 rfl ?_
            refine wa_icmp_le (tgt := 63) (pc' := 54) dL_note_51 (by decide) rfl (by omega) (by omega) (fun c51 => ?_) (fun c51 => ?_)
            · refine wa_iload_n (pc' := 64) dL_note_63 rfl rfl rfl ?_
              refine wa_iret dL_note_64 rfl (by decide) (by decide) ?_
              exact zLP_i ⟨rfl, rfl⟩ rfl
            · exact absurd c51 (by omega)
          · exact absurd c37 (by omega)
        · exact absurd c14 (by omega)
      · exact absurd c2 (by omega)
set_option maxRecDepth 10000 in
set_option maxHeartbeats 2000000 in
theorem l_word (nm : zRw) (s D : zSh) (H : Nat → zSh) (ol ct : Int) (k : zKd) (y : zLy) (si fl wi : Int) (L n0 : Int) (hL : ∀ m : Nat, m < 8 → (wdB L m ≤ 0 ∨ (32 ≤ wdB L m ∧ wdB L m ≤ 126))) : ∀ (m : Nat) (x : Int) (t : zRw) (nc ns : Nat), m ≤ 8 → x = 8 * m - 8 → okC (t, nm, s, D, H, ol, ct, k, y, si, fl, wi) → t.1 + m ≤ 200 → nc + m ≤ 8 → ns + 6 * m ≤ 48 → Wa q_L_word 8 8 48 53 (zLP fun v c => v = zI (wdR L m t).1 ∧ c = (wdR L m t, nm, s, D, H, ol, ct, k, y, si, fl, wi)) 7 [(5, zI x), (4, zI t.1), (0, zR 0), (1, zJ L), (3, zI n0)] [] (wCS (t, nm, s, D, H, ol, ct, k, y, si, fl, wi)) nc ns := by
  intro m
  induction m with
  | zero =>
    intro x t nc ns h0 hx h ht hnc hns
    have hT := h.1
    have hT1 := hT.1
    refine wa_iload (pc' := 9) dL_word_7 rfl rfl ?_
    refine wa_if_lt (tgt := 47) (pc' := 12) dL_word_9 (by decide) rfl (by omega) (fun c9 => ?_) (fun c9 => ?_)
    · refine wa_iload (pc' := 49) dL_word_47 rfl rfl ?_
      refine wa_iret dL_word_49 rfl (by omega) (by omega) ?_
      exact zLP_i ⟨rfl, rfl⟩ rfl
    · exact absurd c9 (by omega)
  | succ m ih =>
    intro x t nc ns h0 hx h ht hnc hns
    obtain rfl : x = 8 * (m : Int) := by omega
    have hT := h.1
    have hT1 := hT.1
    have hb := hL m (by omega)
    have hz : zin (wdB L m) := zin_and _ _
    refine wa_iload (pc' := 9) dL_word_7 rfl rfl ?_
    refine wa_if_lt (tgt := 47) (pc' := 12) dL_word_9 (by decide) rfl (by omega) (fun c9 => ?_) (fun c9 => ?_)
    · exact absurd c9 (by omega)
    · refine wa_lload_n (pc' := 13) dL_word_12 rfl rfl rfl ?_
      refine wa_iload (pc' := 15) dL_word_13 rfl rfl ?_
      refine wa_lushr (pc' := 16) dL_word_15 rfl ?_
      refine wa_l2i (pc' := 17) dL_word_16 rfl ?_
      refine wa_sipush (pc' := 20) dL_word_17 rfl rfl ?_
      refine wa_iand (pc' := 21) dL_word_20 rfl ?_
      show Wa _ _ _ _ _ _ _ _ [zI (wdB L m)] _ _ _
      refine wa_istore (pc' := 23) (ls' := [(6, _), (5, _), (4, _), (0, _), (1, _), (3, _)]) dL_word_21 rfl (by decide) rfl ?_
      refine wa_iload (pc' := 25) dL_word_23 rfl rfl ?_
      refine wa_if_le (tgt := 37) (pc' := 28) dL_word_25 (by decide) rfl (by omega) (fun c25 => ?_) (fun c25 => ?_)
      · refine wa_iload (pc' := 39) dL_word_37 rfl rfl ?_
        refine wa_istore (pc' := 41) (ls' := [(4, _), (6, _), (5, _), (0, _), (1, _), (3, _)]) dL_word_39 rfl (by decide) rfl ?_
        refine wa_iinc (pc' := 44) (ls' := [(5, _), (4, _), (6, _), (0, _), (1, _), (3, _)]) dL_word_41 rfl rfl (by decide) rfl ?_
        refine wa_goto (pc' := 7) dL_word_44 (by decide) ?_
        have e : wdR L (m + 1) t = wdR L m t := by rw [wdR, if_neg (by omega)]
        rw [e]
        refine wa_sub [0, 1, 3, 4, 5] rfl ?_
        exact ih _ t _ _ (by omega) (by omega) h (by omega) (by omega) (by omega)
      · refine wa_aload_n (pc' := 29) dL_word_28 rfl rfl rfl ?_
        refine wa_iload (pc' := 31) dL_word_29 rfl rfl ?_
        refine wy_x (pc' := 34) (c0 := (t, nm, s, D, H, ol, ct, k, y, si, fl, wi)) (c1 := (rA t (wdB L m), nm, s, D, H, ol, ct, k, y, si, fl, wi)) (k_X9_type t nm s D H ol ct k y si fl wi h (wdB L m) hz) (e_type (by omega) (by omega)) rfl ok_X9_type lm_L_15 dL_word_31 rfl rfl rfl rfl rfl (Nat.le_of_ble_eq_true rfl) (Nat.le_of_ble_eq_true rfl) rfl (by omega) (by omega) ?_
        refine wa_goto (pc' := 39) dL_word_34 (by decide) ?_
        refine wa_istore (pc' := 41) (ls' := [(4, _), (6, _), (5, _), (0, _), (1, _), (3, _)]) dL_word_39 rfl (by decide) rfl ?_
        refine wa_iinc (pc' := 44) (ls' := [(5, _), (4, _), (6, _), (0, _), (1, _), (3, _)]) dL_word_41 rfl rfl (by decide) rfl ?_
        refine wa_goto (pc' := 7) dL_word_44 (by decide) ?_
        have e : wdR L (m + 1) t = wdR L m (rA t (wdB L m)) := by rw [wdR, if_pos (by omega)]
        rw [e]
        refine wa_sub [0, 1, 3, 4, 5] rfl ?_
        exact ih _ (rA t (wdB L m)) _ _ (by omega) (by omega) (okC_t h (okT_rA hT (by omega) (by omega))) (by show t.1 + 1 + (m : Int) ≤ 200; omega) (by omega) (by omega)
set_option maxRecDepth 10000 in
set_option maxHeartbeats 2000000 in
theorem k_L_word (t nm : zRw) (s D : zSh) (H : Nat → zSh) (ol ct : Int) (k : zKd) (y : zLy) (si fl wi : Int) (h : okC (t, nm, s, D, H, ol, ct, k, y, si, fl, wi)) (L : Int) (hL : ∀ m : Nat, m < 8 → (wdB L m ≤ 0 ∨ (32 ≤ wdB L m ∧ wdB L m ≤ 126))) (ht : t.1 + 8 ≤ 200) : zMet q_L_word 8 8 48 [zR 0, zJ L, zI t.1] (wCS (t, nm, s, D, H, ol, ct, k, y, si, fl, wi)) (zLP fun v c => v = zI (wdR L 8 t).1 ∧ c = (wdR L 8 t, nm, s, D, H, ol, ct, k, y, si, fl, wi)) := by
  refine z_introF (ls := [(0, _), (1, _), (3, _)]) (by decide +kernel) rfl (fun _ _ => rfl) (fun _ _ => Nat.le_of_ble_eq_true rfl) ?_
  refine wa_iload_n (pc' := 1) dL_word_0 rfl rfl rfl ?_
  refine wa_istore (pc' := 3) (ls' := [(4, _), (0, _), (1, _), (3, _)]) dL_word_1 rfl (by decide) rfl ?_
  refine wa_bipush (pc' := 5) dL_word_3 rfl rfl ?_
  refine wa_istore (pc' := 7) (ls' := [(5, _), (4, _), (0, _), (1, _), (3, _)]) dL_word_5 rfl (by decide) rfl ?_
  refine wa_sub [0, 1, 2, 3, 4] rfl ?_
  exact l_word nm s D H ol ct k y si fl wi L t.1 hL 8 56 t 0 0 (by decide) (by decide) h (by omega) (by decide) (by decide)

set_option maxRecDepth 10000 in
set_option maxHeartbeats 2000000 in
theorem k_L_chord (t nm : zRw) (s D : zSh) (H : Nat → zSh) (ol ct : Int) (k : zKd) (y : zLy) (si fl wi : Int) (h : okC (t, nm, s, D, H, ol, ct, k, y, si, fl, wi)) (x : Int) (ht : t.1 ≤ 186) : zMet q_L_chord 9 13 78 [zR 0, zI x] (wCS (t, nm, s, D, H, ol, ct, k, y, si, fl, wi)) (zLP fun v c => v = zI (rL t (chT (rB x) (qB x) (bB x))).1 ∧ c = (rL t (chT (rB x) (qB x) (bB x)), nm, s, D, H, ol, ct, k, y, si, fl, wi)) := by
  refine z_introF (ls := [(0, _), (1, _)]) (by decide +kernel) rfl (fun _ _ => rfl) (fun _ _ => Nat.le_of_ble_eq_true rfl) ?_
  have hr := rB_b x
  have hq := qB_b x
  have hb := bB_b x
  have n1 := ntT_n (rB x)
  have n2 := zby_n hq
  have n3 := ntT_n (bB x)
  have l1 := rL_len t (ntT (rB x))
  have l2 := rL_len (rL t (ntT (rB x))) (zBytes.getD (qB x).toNat [])
  have h1 : okC (rL t (ntT (rB x)), nm, s, D, H, ol, ct, k, y, si, fl, wi) := okC_t h (okT_rL _ h.1 (by omega) (ntT_c _))
  have h2 : okC (rL (rL t (ntT (rB x))) (zBytes.getD (qB x).toNat []), nm, s, D, H, ol, ct, k, y, si, fl, wi) := okC_t h (okT_rL _ h1.1 (by omega) (fun c hc => (byte_c (qB x).toNat (by omega) c hc).1))
  have wq := wd_q hq
  have ew : wdR (qlL (qB x)) 8 (rL t (ntT (rB x))) = rL (rL t (ntT (rB x))) (zBytes.getD (qB x).toNat []) := by rw [wdR_S, wq.1]
  have kw := k_L_word (rL t (ntT (rB x))) nm s D H ol ct k y si fl wi h1 (qlL (qB x)) wq.2 (by omega)
  rw [ew] at kw
  refine wa_aload_n (pc' := 1) dL_chord_0 rfl rfl rfl ?_
  refine wa_iload_n (pc' := 2) dL_chord_1 rfl rfl rfl ?_
  refine wx_n (pc' := 5) (k_L_rootBy x) rfl ok_L_rootBy lm_L_42 dL_chord_2 rfl rfl rfl (Nat.le_of_ble_eq_true rfl) (Nat.le_of_ble_eq_true rfl) rfl (by omega) (by omega) ?_
  refine wy_s (pc' := 8) (c0 := (t, nm, s, D, H, ol, ct, k, y, si, fl, wi)) (k_L_note t nm s D H ol ct k y si fl wi h (rB x) hr (by omega)) (fun v9 c9 h9 => by rw [h9.1]; rfl) ok_L_note lm_L_45 dL_chord_5 rfl rfl rfl (Nat.le_of_ble_eq_true rfl) (Nat.le_of_ble_eq_true rfl) rfl (by omega) (by omega) (fun v9 c9 h9 => ?_)
  obtain ⟨rfl, rfl⟩ := h9
  refine wa_istore_n (pc' := 9) (ls' := [(2, _), (0, _), (1, _)]) dL_chord_8 rfl rfl (by decide) rfl ?_
  refine wa_aload_n (pc' := 10) dL_chord_9 rfl rfl rfl ?_
  refine wa_iload_n (pc' := 11) dL_chord_10 rfl rfl rfl ?_
  refine wx_n (pc' := 14) (k_L_qualityBy x) rfl ok_L_qualityBy lm_L_49 dL_chord_11 rfl rfl rfl (Nat.le_of_ble_eq_true rfl) (Nat.le_of_ble_eq_true rfl) rfl (by omega) (by omega) ?_
  refine wx_n (pc' := 17) (k_L_quality (qB x) hq) rfl ok_L_quality lm_L_52 dL_chord_14 rfl rfl rfl (Nat.le_of_ble_eq_true rfl) (Nat.le_of_ble_eq_true rfl) rfl (by omega) (by omega) ?_
  refine wa_iload_n (pc' := 18) dL_chord_17 rfl rfl rfl ?_
  refine wy_s (pc' := 21) (c0 := (rL t (ntT (rB x)), nm, s, D, H, ol, ct, k, y, si, fl, wi)) kw (fun v9 c9 h9 => by rw [h9.1]; rfl) ok_L_word lm_L_56 dL_chord_18 rfl rfl rfl (Nat.le_of_ble_eq_true rfl) (Nat.le_of_ble_eq_true rfl) rfl (by omega) (by omega) (fun v9 c9 h9 => ?_)
  obtain ⟨rfl, rfl⟩ := h9
  refine wa_istore_n (pc' := 22) (ls' := [(2, _), (0, _), (1, _)]) dL_chord_21 rfl rfl (by decide) rfl ?_
  refine wa_iload_n (pc' := 23) dL_chord_22 rfl rfl rfl ?_
  refine wx_n (pc' := 26) (k_L_bassBy x) rfl ok_L_bassBy lm_L_60 dL_chord_23 rfl rfl rfl (Nat.le_of_ble_eq_true rfl) (Nat.le_of_ble_eq_true rfl) rfl (by omega) (by omega) ?_
  refine wa_bipush (pc' := 28) dL_chord_26 rfl rfl ?_
  refine wa_icmp_ge (tgt := 47) (pc' := 31) dL_chord_28 (by decide) rfl (by omega) (by omega) (fun c28 => ?_) (fun c28 => ?_)
  · refine wa_iload_n (pc' := 48) dL_chord_47 rfl rfl rfl ?_
    refine wa_iret dL_chord_48 rfl (by decide) (by decide) ?_
    first | exact absurd c28 (by omega) | skip
    by_cases c9 : bB x = 100
    · have e : chT (rB x) (qB x) (bB x) = ntT (rB x) ++ zBytes.getD (qB x).toNat [] := by unfold chT; rw [if_pos c9, List.append_nil]
      rw [e, rL_app]
      first | exact zLP_i ⟨rfl, rfl⟩ rfl | exact absurd c28 (by omega)
    · have e : chT (rB x) (qB x) (bB x) = ntT (rB x) ++ (zBytes.getD (qB x).toNat [] ++ 47 :: ntT (bB x)) := by unfold chT; rw [if_neg c9]
      rw [e, rL_app, rL_app]
      first | exact zLP_i ⟨rfl, rfl⟩ rfl | exact absurd c28 (by omega)
  · refine wa_aload_n (pc' := 32) dL_chord_31 rfl rfl rfl ?_
    refine wa_bipush (pc' := 34) dL_chord_32 rfl rfl ?_
    refine wy_x (pc' := 37) (c0 := (rL (rL t (ntT (rB x))) (zBytes.getD (qB x).toNat []), nm, s, D, H, ol, ct, k, y, si, fl, wi)) (c1 := (rA (rL (rL t (ntT (rB x))) (zBytes.getD (qB x).toNat [])) 47, nm, s, D, H, ol, ct, k, y, si, fl, wi)) (k_X9_type (rL (rL t (ntT (rB x))) (zBytes.getD (qB x).toNat [])) nm s D H ol ct k y si fl wi h2 47 ⟨by omega, by omega⟩) (e_type (by omega) (by omega)) rfl ok_X9_type lm_L_15 dL_chord_34 rfl rfl rfl rfl rfl (Nat.le_of_ble_eq_true rfl) (Nat.le_of_ble_eq_true rfl) rfl (by omega) (by omega) ?_
    refine wa_istore_n (pc' := 38) (ls' := [(2, _), (0, _), (1, _)]) dL_chord_37 rfl rfl (by decide) rfl ?_
    refine wa_aload_n (pc' := 39) dL_chord_38 rfl rfl rfl ?_
    refine wa_iload_n (pc' := 40) dL_chord_39 rfl rfl rfl ?_
    refine wx_n (pc' := 43) (k_L_bassBy x) rfl ok_L_bassBy lm_L_60 dL_chord_40 rfl rfl rfl (Nat.le_of_ble_eq_true rfl) (Nat.le_of_ble_eq_true rfl) rfl (by omega) (by omega) ?_
    refine wy_s (pc' := 46) (c0 := (rA (rL (rL t (ntT (rB x))) (zBytes.getD (qB x).toNat [])) 47, nm, s, D, H, ol, ct, k, y, si, fl, wi)) (k_L_note (rA (rL (rL t (ntT (rB x))) (zBytes.getD (qB x).toNat [])) 47) nm s D H ol ct k y si fl wi (okC_t h (okT_rA h2.1 (by omega) (by omega))) (bB x) (by omega) (by show (rL (rL t (ntT (rB x))) (zBytes.getD (qB x).toNat [])).1 + 1 + 2 ≤ 200; omega)) (fun v9 c9 h9 => by rw [h9.1]; rfl) ok_L_note lm_L_45 dL_chord_43 rfl rfl rfl (Nat.le_of_ble_eq_true rfl) (Nat.le_of_ble_eq_true rfl) rfl (by omega) (by omega) (fun v9 c9 h9 => ?_)
    obtain ⟨rfl, rfl⟩ := h9
    refine wa_istore_n (pc' := 47) (ls' := [(2, _), (0, _), (1, _)]) dL_chord_46 rfl rfl (by decide) rfl ?_
    refine wa_iload_n (pc' := 48) dL_chord_47 rfl rfl rfl ?_
    refine wa_iret dL_chord_48 rfl (by decide) (by decide) ?_
    first | exact absurd c28 (by omega) | skip
    by_cases c9 : bB x = 100
    · have e : chT (rB x) (qB x) (bB x) = ntT (rB x) ++ zBytes.getD (qB x).toNat [] := by unfold chT; rw [if_pos c9, List.append_nil]
      rw [e, rL_app]
      first | exact zLP_i ⟨rfl, rfl⟩ rfl | exact absurd c28 (by omega)
    · have e : chT (rB x) (qB x) (bB x) = ntT (rB x) ++ (zBytes.getD (qB x).toNat [] ++ 47 :: ntT (bB x)) := by unfold chT; rw [if_neg c9]
      rw [e, rL_app, rL_app]
      first | exact zLP_i ⟨rfl, rfl⟩ rfl | exact absurd c28 (by omega)

