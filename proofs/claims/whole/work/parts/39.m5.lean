/-! the reference: tones, keys, capo -/
def htF (r q b p : Int) : Int := if (b ≠ 100 ∧ pcl b = p) ∨ zand (zshr (zTones.getD q.toNat 0) ((p - pcl r) % 12)) 1 = 1 then 1 else 0
theorem htF_01 (r q b p : Int) : htF r q b p = 0 ∨ htF r q b p = 1 := by unfold htF; split <;> omega
def htR (r q b r' q' b' : Int) : Nat → Int → Int → Int
  | 0, _, n => n
  | m + 1, p, n => htR r q b r' q' b' m (p + 1) (n + if htF r q b p = 1 ∧ htF r' q' b' p = 1 then 1 else 0)
theorem zand_in (a b : Int) : zin (zand a b) := zin_to _
theorem pcl12 {p : Int} : 0 ≤ pcl p ∧ pcl p < 12 := pcl_b p
set_option maxRecDepth 10000 in
set_option maxHeartbeats 1000000 in
theorem k_X10_hasTone (s : zSh) (v pa : Int → Int) (sn : Int) (tx : Int → Int) (ty si fl wi th ap nt rr rq rb wh : Int) (md na : Int → Int) (nd : Int) (up lo : Int → Int) (us lw : Int) (i : Int) (p : Int) (hs : okW s) (hv : Vr s v) (hi : 0 ≤ i ∧ i < s.2.2.2.2.1) (hp : 0 ≤ p ∧ p < 12) : zMet q_X10_hasTone 2 0 0 [zR 0, zI i, zI p] (wM v pa sn tx ty si fl wi th ap nt rr rq rb wh md na nd up lo us lw) (zD (some (zI (htF (s.2.2.1 (i * 5 + 2)) (s.2.2.1 (i * 5 + 3)) (s.2.2.1 (i * 5 + 4)) p))) (wM v pa sn tx ty si fl wi th ap nt rr rq rb wh md na nd up lo us lw)) := by
  refine z_introF (ls := [(0, _), (1, _), (2, _)]) (by decide +kernel) rfl (fun _ _ => rfl) (fun _ _ => Nat.le_of_ble_eq_true rfl) ?_
  obtain ⟨v0, v1, v2, v3, vT, vF, vL⟩ := id hv
  have hz := hs.1
  obtain ⟨z1, z2, zT1, z4, zF1, zL1⟩ := id hz.1
  have zNm := hz.2.1
  have zg := hz.2.2.1
  have zm := hz.2.2.2.1
  have zln := hz.2.2.2.2
  have vS := Vr_sg hv zm
  have zQ1 := fun i h1 h2 => (zNm i h1 h2).2.1
  have f2 := Vr_F hv (i := i) (f := 2) (by omega) (by omega)
  have f3 := Vr_F hv (i := i) (f := 3) (by omega) (by omega)
  have f4 := Vr_F hv (i := i) (f := 4) (by omega) (by omega)
  have b2 := zF1 (i * 5 + 2) (by omega) (by omega)
  have b4 := zF1 (i * 5 + 4) (by omega) (by omega)
  have b3 := zQ1 i (by omega) (by omega)
  have p2 := pcl_b (s.2.2.1 (i * 5 + 2))
  have p4 := pcl_b (s.2.2.1 (i * 5 + 4))
  refine wa_iload_n (pc' := 1) dX10_hasTone_0 rfl rfl rfl ?_
  refine wa_dS (pc' := 4) (w' := [_, _, _, _, _, _, _, _, _, _]) (k_X10_chord i (by omega)) ok_X10_chord lm_X10_94 dX10_hasTone_1 rfl [] rfl (by decide) rfl rfl (by decide) (Nat.le_of_ble_eq_true rfl) rfl (by decide) (by decide) rfl rfl rfl ?_
  refine wa_istore_n (pc' := 5) (ls' := [(3, _), (0, _), (1, _), (2, _)]) dX10_hasTone_4 rfl rfl (by decide) rfl ?_
  refine wa_join (J := 38) (P := fun x => x = 1 ∧ (s.2.2.1 (i * 5 + 4) ≠ 100 ∧ pcl (s.2.2.1 (i * 5 + 4)) = p) ∨ x = 0 ∧ ¬ (s.2.2.1 (i * 5 + 4) ≠ 100 ∧ pcl (s.2.2.1 (i * 5 + 4)) = p)) (fun x38 e38 => ?_) (fun K38 => ?_)
  · refine wa_istore (pc' := 40) (ls' := [(4, _), (3, _), (0, _), (1, _), (2, _)]) dX10_hasTone_38 rfl (by decide) rfl ?_
    refine wa_iload (pc' := 42) dX10_hasTone_40 rfl rfl ?_
    refine wa_if_ne (tgt := 79) (pc' := 45) dX10_hasTone_42 (by decide) rfl (by omega) (fun c42 => ?_) (fun c42 => ?_)
    · refine wa_iconst (pc' := 80) dX10_hasTone_79 rfl ?_
      refine wa_goto (pc' := 84) dX10_hasTone_80 (by decide) ?_
      refine wa_zret dX10_hasTone_84 rfl (by decide) (by decide) (by omega) ?_
      exact zD_i (congrArg (fun x => some (zI x)) (by rw [htF]; first | rw [if_pos (by omega)] | rw [if_neg (by omega)])) rfl
    · refine wa_aload_n (pc' := 46) dX10_hasTone_45 rfl rfl rfl ?_
      refine wa_getfield (pc' := 49) (j := 0) zc_X10 lk_X10_7 dX10_hasTone_46 rfl (by decide) rfl rfl ?_
      refine wa_iload_n (pc' := 50) dX10_hasTone_49 rfl rfl rfl ?_
      refine wa_iconst (pc' := 51) dX10_hasTone_50 rfl ?_
      refine wa_iadd (pc' := 52) dX10_hasTone_51 rfl ?_
      refine wa_iaload (pc' := 53) dX10_hasTone_52 rfl rfl (by omega) (by omega) (by decide) ?_
      rw [f3]
      refine wa_dS (pc' := 56) (w' := [_, _, _, _, _, _, _, _, _, _]) (k_X10_tonesOf (s.2.2.1 (i * 5 + 3)) (by omega)) ok_X10_tonesOf lm_X10_164 dX10_hasTone_53 rfl [] rfl (by decide) rfl rfl (by decide) (Nat.le_of_ble_eq_true rfl) rfl (by decide) (by decide) rfl rfl rfl ?_
      refine wa_iload_n (pc' := 57) dX10_hasTone_56 rfl rfl rfl ?_
      refine wa_aload_n (pc' := 58) dX10_hasTone_57 rfl rfl rfl ?_
      refine wa_getfield (pc' := 61) (j := 0) zc_X10 lk_X10_7 dX10_hasTone_58 rfl (by decide) rfl rfl ?_
      refine wa_iload_n (pc' := 62) dX10_hasTone_61 rfl rfl rfl ?_
      refine wa_iconst (pc' := 63) dX10_hasTone_62 rfl ?_
      refine wa_iadd (pc' := 64) dX10_hasTone_63 rfl ?_
      refine wa_iaload (pc' := 65) dX10_hasTone_64 rfl rfl (by omega) (by omega) (by decide) ?_
      rw [f2]
      refine wa_dS (pc' := 68) (w' := [_, _, _, _, _, _, _, _, _, _]) (k_X10_pitch (s.2.2.1 (i * 5 + 2)) (by omega)) ok_X10_pitch lm_X10_161 dX10_hasTone_65 rfl [] rfl (by decide) rfl rfl (by decide) (Nat.le_of_ble_eq_true rfl) rfl (by decide) (by decide) rfl rfl rfl ?_
      refine wa_isub (pc' := 69) dX10_hasTone_68 rfl ?_
      refine wa_dS (pc' := 72) (w' := [_, _, _, _, _, _, _, _, _, _]) (k_X10_mod12 (p - pcl (s.2.2.1 (i * 5 + 2))) (by omega)) ok_X10_mod12 lm_X10_52 dX10_hasTone_69 rfl [] rfl (by decide) rfl rfl (by decide) (Nat.le_of_ble_eq_true rfl) rfl (by decide) (by decide) rfl rfl rfl ?_
      refine wa_ishr (pc' := 73) dX10_hasTone_72 rfl ?_
      refine wa_iconst (pc' := 74) dX10_hasTone_73 rfl ?_
      refine wa_iand (pc' := 75) dX10_hasTone_74 rfl ?_
      refine wa_iconst (pc' := 76) dX10_hasTone_75 rfl ?_
      refine wa_icmp_ne (tgt := 83) (pc' := 79) dX10_hasTone_76 (by decide) rfl (zand_in _ _) (by omega) (fun c76 => ?_) (fun c76 => ?_)
      · refine wa_iconst (pc' := 84) dX10_hasTone_83 rfl ?_
        refine wa_zret dX10_hasTone_84 rfl (by decide) (by decide) (by omega) ?_
        exact zD_i (congrArg (fun x => some (zI x)) (by rw [htF]; first | rw [if_pos (by omega)] | rw [if_neg (by omega)])) rfl
      · refine wa_iconst (pc' := 80) dX10_hasTone_79 rfl ?_
        refine wa_goto (pc' := 84) dX10_hasTone_80 (by decide) ?_
        refine wa_zret dX10_hasTone_84 rfl (by decide) (by decide) (by omega) ?_
        exact zD_i (congrArg (fun x => some (zI x)) (by rw [htF]; first | rw [if_pos (by omega)] | rw [if_neg (by omega)])) rfl
  · refine wa_aload_n (pc' := 6) dX10_hasTone_5 rfl rfl rfl ?_
    refine wa_getfield (pc' := 9) (j := 0) zc_X10 lk_X10_7 dX10_hasTone_6 rfl (by decide) rfl rfl ?_
    refine wa_iload_n (pc' := 10) dX10_hasTone_9 rfl rfl rfl ?_
    refine wa_iconst (pc' := 11) dX10_hasTone_10 rfl ?_
    refine wa_iadd (pc' := 12) dX10_hasTone_11 rfl ?_
    refine wa_iaload (pc' := 13) dX10_hasTone_12 rfl rfl (by omega) (by omega) (by decide) ?_
    rw [f4]
    refine wa_bipush (pc' := 15) dX10_hasTone_13 rfl rfl ?_
    refine wa_icmp_eq (tgt := 37) (pc' := 18) dX10_hasTone_15 (by decide) rfl (by omega) (by omega) (fun c15 => ?_) (fun c15 => ?_)
    · refine wa_iconst (pc' := 38) dX10_hasTone_37 rfl ?_
      exact K38 _ (by show _ ∨ _; omega)
    · refine wa_aload_n (pc' := 19) dX10_hasTone_18 rfl rfl rfl ?_
      refine wa_getfield (pc' := 22) (j := 0) zc_X10 lk_X10_7 dX10_hasTone_19 rfl (by decide) rfl rfl ?_
      refine wa_iload_n (pc' := 23) dX10_hasTone_22 rfl rfl rfl ?_
      refine wa_iconst (pc' := 24) dX10_hasTone_23 rfl ?_
      refine wa_iadd (pc' := 25) dX10_hasTone_24 rfl ?_
      refine wa_iaload (pc' := 26) dX10_hasTone_25 rfl rfl (by omega) (by omega) (by decide) ?_
      rw [f4]
      refine wa_dS (pc' := 29) (w' := [_, _, _, _, _, _, _, _, _, _]) (k_X10_pitch (s.2.2.1 (i * 5 + 4)) (by omega)) ok_X10_pitch lm_X10_161 dX10_hasTone_26 rfl [] rfl (by decide) rfl rfl (by decide) (Nat.le_of_ble_eq_true rfl) rfl (by decide) (by decide) rfl rfl rfl ?_
      refine wa_iload_n (pc' := 30) dX10_hasTone_29 rfl rfl rfl ?_
      refine wa_icmp_ne (tgt := 37) (pc' := 33) dX10_hasTone_30 (by decide) rfl (by omega) (by omega) (fun c30 => ?_) (fun c30 => ?_)
      · refine wa_iconst (pc' := 38) dX10_hasTone_37 rfl ?_
        exact K38 _ (by show _ ∨ _; omega)
      · refine wa_iconst (pc' := 34) dX10_hasTone_33 rfl ?_
        refine wa_goto (pc' := 38) dX10_hasTone_34 (by decide) ?_
        exact K38 _ (by show _ ∨ _; omega)

set_option maxRecDepth 10000 in
set_option maxHeartbeats 1000000 in
theorem l_common (s : zSh) (v pa : Int → Int) (sn : Int) (tx : Int → Int) (ty si fl wi th ap nt rr rq rb wh : Int) (md na : Int → Int) (nd : Int) (up lo : Int → Int) (us lw : Int) (i : Int) (hi : 0 ≤ i ∧ i + 1 < s.2.2.2.2.1) (hs : okW s) (hv : Vr s v) (R : Int) : ∀ (m : Nat) (p n : Int), 0 ≤ p → p + m = 12 → htR (s.2.2.1 (i * 5 + 2)) (s.2.2.1 (i * 5 + 3)) (s.2.2.1 (i * 5 + 4)) (s.2.2.1 ((i + 1) * 5 + 2)) (s.2.2.1 ((i + 1) * 5 + 3)) (s.2.2.1 ((i + 1) * 5 + 4)) m p n = R → Wa q_X10_commonTones 3 0 0 10 (zD (some (zI R)) (wM v pa sn tx ty si fl wi 0 ap nt rr rq rb wh md na nd up lo us lw)) 33 [(3, zI p), (2, zI n), (0, zR 0), (1, zI i)] [] (wM v pa sn tx ty si fl wi 0 ap nt rr rq rb wh md na nd up lo us lw) 0 0 := by
  obtain ⟨v0, v1, v2, v3, vT, vF, vL⟩ := id hv
  have hz := hs.1
  obtain ⟨z1, z2, zT1, z4, zF1, zL1⟩ := id hz.1
  have zNm := hz.2.1
  have zg := hz.2.2.1
  have zm := hz.2.2.2.1
  have zln := hz.2.2.2.2
  have vS := Vr_sg hv zm
  have zQ1 := fun i h1 h2 => (zNm i h1 h2).2.1
  intro m
  induction m with
  | zero =>
    intro p n h0 hm hR
    refine wa_iload_n (pc' := 34) dX10_commonTones_33 rfl rfl rfl ?_
    refine wa_bipush (pc' := 36) dX10_commonTones_34 rfl rfl ?_
    refine wa_icmp_ge (tgt := 73) (pc' := 39) dX10_commonTones_36 (by decide) rfl (by omega) (by omega) (fun c36 => ?_) (fun c36 => ?_)
    · refine wa_iload_n (pc' := 74) dX10_commonTones_73 rfl rfl rfl ?_
      refine wa_iret dX10_commonTones_74 rfl (by decide) (by decide) ?_
      exact zD_i (by rw [← hR]; rfl) rfl
    · exact absurd c36 (by omega)
  | succ m ih =>
    intro p n h0 hm hR
    have h1 := htF_01 (s.2.2.1 (i * 5 + 2)) (s.2.2.1 (i * 5 + 3)) (s.2.2.1 (i * 5 + 4)) p
    have h2 := htF_01 (s.2.2.1 ((i + 1) * 5 + 2)) (s.2.2.1 ((i + 1) * 5 + 3)) (s.2.2.1 ((i + 1) * 5 + 4)) p
    rw [htR] at hR
    refine wa_iload_n (pc' := 34) dX10_commonTones_33 rfl rfl rfl ?_
    refine wa_bipush (pc' := 36) dX10_commonTones_34 rfl rfl ?_
    refine wa_icmp_ge (tgt := 73) (pc' := 39) dX10_commonTones_36 (by decide) rfl (by omega) (by omega) (fun c36 => ?_) (fun c36 => ?_)
    · exact absurd c36 (by omega)
    · refine wa_iload_n (pc' := 40) dX10_commonTones_39 rfl rfl rfl ?_
      refine wa_join (J := 65) (P := fun x => x = 1 ∧ (htF (s.2.2.1 (i * 5 + 2)) (s.2.2.1 (i * 5 + 3)) (s.2.2.1 (i * 5 + 4)) p = 1 ∧ htF (s.2.2.1 ((i + 1) * 5 + 2)) (s.2.2.1 ((i + 1) * 5 + 3)) (s.2.2.1 ((i + 1) * 5 + 4)) p = 1) ∨ x = 0 ∧ ¬ (htF (s.2.2.1 (i * 5 + 2)) (s.2.2.1 (i * 5 + 3)) (s.2.2.1 (i * 5 + 4)) p = 1 ∧ htF (s.2.2.1 ((i + 1) * 5 + 2)) (s.2.2.1 ((i + 1) * 5 + 3)) (s.2.2.1 ((i + 1) * 5 + 4)) p = 1)) (fun x65 e65 => ?_) (fun K65 => ?_)
      · refine wa_iadd (pc' := 66) dX10_commonTones_65 rfl ?_
        refine wa_istore_n (pc' := 67) (ls' := [(2, _), (3, _), (0, _), (1, _)]) dX10_commonTones_66 rfl rfl (by decide) rfl ?_
        refine wa_iinc (pc' := 70) (ls' := [(3, _), (2, _), (0, _), (1, _)]) dX10_commonTones_67 rfl rfl (by decide) rfl ?_
        refine wa_goto (pc' := 33) dX10_commonTones_70 (by decide) ?_
        refine ih (p + 1) (n + x65) (by omega) (by omega) ?_
        rcases e65 with ⟨e, h9⟩ | ⟨e, h9⟩
        · rw [if_pos h9] at hR; rw [e]; exact hR
        · rw [if_neg h9] at hR; rw [e]; exact hR
      · refine wa_aload_n (pc' := 41) dX10_commonTones_40 rfl rfl rfl ?_
        refine wa_iload_n (pc' := 42) dX10_commonTones_41 rfl rfl rfl ?_
        refine wa_iload_n (pc' := 43) dX10_commonTones_42 rfl rfl rfl ?_
        refine wa_rI2 (pc' := 46) (st := [_]) (k_X10_hasTone s _ _ _ _ _ _ _ _ _ _ _ _ _ _ _ _ _ _ _ _ _ _ i p hs hv (by omega) (by omega)) ok_X10_hasTone lm_X10_167 dX10_commonTones_43 rfl (wM_ok _ _ _ _ _ _ _ _ _ _ _ _ _ _ _ _ _ _ _ _ _ _) rfl rfl (Nat.le_of_ble_eq_true rfl) rfl rfl rfl rfl (by decide) (Nat.le_of_ble_eq_true rfl) rfl (by decide) (by decide) rfl rfl ?_
        refine wa_if_eq (tgt := 64) (pc' := 49) dX10_commonTones_46 (by decide) rfl (by omega) (fun c46 => ?_) (fun c46 => ?_)
        · refine wa_iconst (pc' := 65) dX10_commonTones_64 rfl ?_
          exact K65 _ (by show _ ∨ _; omega)
        · refine wa_aload_n (pc' := 50) dX10_commonTones_49 rfl rfl rfl ?_
          refine wa_iload_n (pc' := 51) dX10_commonTones_50 rfl rfl rfl ?_
          refine wa_iconst (pc' := 52) dX10_commonTones_51 rfl ?_
          refine wa_iadd (pc' := 53) dX10_commonTones_52 rfl ?_
          refine wa_iload_n (pc' := 54) dX10_commonTones_53 rfl rfl rfl ?_
          refine wa_rI2 (pc' := 57) (st := [_]) (k_X10_hasTone s _ _ _ _ _ _ _ _ _ _ _ _ _ _ _ _ _ _ _ _ _ _ (i + 1) p hs hv (by omega) (by omega)) ok_X10_hasTone lm_X10_167 dX10_commonTones_54 rfl (wM_ok _ _ _ _ _ _ _ _ _ _ _ _ _ _ _ _ _ _ _ _ _ _) rfl rfl (Nat.le_of_ble_eq_true rfl) rfl rfl rfl rfl (by decide) (Nat.le_of_ble_eq_true rfl) rfl (by decide) (by decide) rfl rfl ?_
          refine wa_if_eq (tgt := 64) (pc' := 60) dX10_commonTones_57 (by decide) rfl (by omega) (fun c57 => ?_) (fun c57 => ?_)
          · refine wa_iconst (pc' := 65) dX10_commonTones_64 rfl ?_
            exact K65 _ (by show _ ∨ _; omega)
          · refine wa_iconst (pc' := 61) dX10_commonTones_60 rfl ?_
            refine wa_goto (pc' := 65) dX10_commonTones_61 (by decide) ?_
            exact K65 _ (by show _ ∨ _; omega)

set_option maxRecDepth 10000 in
set_option maxHeartbeats 1000000 in
theorem k_X10_commonTones (s : zSh) (v pa : Int → Int) (sn : Int) (tx : Int → Int) (ty si fl wi th ap nt rr rq rb wh : Int) (md na : Int → Int) (nd : Int) (up lo : Int → Int) (us lw : Int) (i : Int) (hs : okW s) (hv : Vr s v) (hi : zin i) : zMet q_X10_commonTones 3 0 0 [zR 0, zI i] (wM v pa sn tx ty si fl wi th ap nt rr rq rb wh md na nd up lo us lw) (zD (some (zI (if 0 ≤ i ∧ i + 1 < s.2.2.2.2.1 then htR (s.2.2.1 (i * 5 + 2)) (s.2.2.1 (i * 5 + 3)) (s.2.2.1 (i * 5 + 4)) (s.2.2.1 ((i + 1) * 5 + 2)) (s.2.2.1 ((i + 1) * 5 + 3)) (s.2.2.1 ((i + 1) * 5 + 4)) 12 0 0 else 0))) (wM v pa sn tx ty si fl wi (if 0 ≤ i ∧ i + 1 < s.2.2.2.2.1 then 0 else 1) ap nt rr rq rb wh md na nd up lo us lw)) := by
  refine z_introF (ls := [(0, _), (1, _)]) (by decide +kernel) rfl (fun _ _ => rfl) (fun _ _ => Nat.le_of_ble_eq_true rfl) ?_
  obtain ⟨v0, v1, v2, v3, vT, vF, vL⟩ := id hv
  have hz := hs.1
  obtain ⟨z1, z2, zT1, z4, zF1, zL1⟩ := id hz.1
  have zNm := hz.2.1
  have zg := hz.2.2.1
  have zm := hz.2.2.2.1
  have zln := hz.2.2.2.2
  have vS := Vr_sg hv zm
  have zQ1 := fun i h1 h2 => (zNm i h1 h2).2.1
  refine wa_aload_n (pc' := 1) dX10_commonTones_0 rfl rfl rfl ?_
  refine wa_iconst (pc' := 2) dX10_commonTones_1 rfl ?_
  refine wa_putfield (pc' := 5) (j := 8) (w' := [zO _ [_, _, _, _, _, _, _, _, _, _, _, _, _, _, _, _, _, _, _, _, _, _, _, _], _, _, _, _, _, _, _, _, _]) zc_X10 lk_X10_46 dX10_commonTones_2 rfl (by decide) rfl rfl (Nat.le_of_ble_eq_true rfl) True.intro rfl ?_
  refine wa_aload_n (pc' := 6) dX10_commonTones_5 rfl rfl rfl ?_
  refine wa_iload_n (pc' := 7) dX10_commonTones_6 rfl rfl rfl ?_
  refine wa_rI2 (pc' := 10) (st := []) (k_X10_isChord s _ _ _ _ _ _ _ _ _ _ _ _ _ _ _ _ _ _ _ _ _ _ _ hs hv (by omega) ) ok_X10_isChord lm_X10_127 dX10_commonTones_7 rfl (wM_ok _ _ _ _ _ _ _ _ _ _ _ _ _ _ _ _ _ _ _ _ _ _) rfl rfl (Nat.le_of_ble_eq_true rfl) rfl rfl rfl rfl (by decide) (Nat.le_of_ble_eq_true rfl) rfl (by decide) (by decide) rfl rfl ?_
  refine wa_if_eq (tgt := 23) (pc' := 13) dX10_commonTones_10 (by decide) rfl (by split <;> omega) (fun c10 => ?_) (fun c10 => ?_)
  · have h10 := ite0 c10
    refine wa_aload_n (pc' := 24) dX10_commonTones_23 rfl rfl rfl ?_
    refine wa_iconst (pc' := 25) dX10_commonTones_24 rfl ?_
    refine wa_iD2 (pc' := 28) (st := []) (k_X10_fails _ _ _ _ _ _ _ _ _ _ _ _ _ _ _ _ _ _ _ _ _ _ _ ) ok_X10_fails lm_X10_101 dX10_commonTones_25 rfl (wM_ok _ _ _ _ _ _ _ _ _ _ _ _ _ _ _ _ _ _ _ _ _ _) (Eq.refl 10) (wM_ok _ _ _ _ _ _ _ _ _ _ _ _ _ _ _ _ _ _ _ _ _ _) rfl rfl (Nat.le_of_ble_eq_true rfl) rfl rfl rfl rfl (by decide) (Nat.le_of_ble_eq_true rfl) rfl (by decide) (by decide) rfl rfl ?_
    show Wa _ _ _ _ _ _ _ _ [_] _ _ _
    refine wa_iret dX10_commonTones_28 rfl (by decide) (by decide) ?_
    first | exact zD_i (by rw [if_pos (by omega)]) (by rw [if_pos (by omega)]) | exact zD_i (by rw [if_neg (by omega)]) (by rw [if_neg (by omega)])
  · have h10 := ite1 c10
    refine wa_aload_n (pc' := 14) dX10_commonTones_13 rfl rfl rfl ?_
    refine wa_iload_n (pc' := 15) dX10_commonTones_14 rfl rfl rfl ?_
    refine wa_iconst (pc' := 16) dX10_commonTones_15 rfl ?_
    refine wa_iadd (pc' := 17) dX10_commonTones_16 rfl ?_
    refine wa_rI2 (pc' := 20) (st := []) (k_X10_isChord s _ _ _ _ _ _ _ _ _ _ _ _ _ _ _ _ _ _ _ _ _ _ (i + 1) hs hv (by omega)) ok_X10_isChord lm_X10_127 dX10_commonTones_17 rfl (wM_ok _ _ _ _ _ _ _ _ _ _ _ _ _ _ _ _ _ _ _ _ _ _) rfl rfl (Nat.le_of_ble_eq_true rfl) rfl rfl rfl rfl (by decide) (Nat.le_of_ble_eq_true rfl) rfl (by decide) (by decide) rfl rfl ?_
    refine wa_if_ne (tgt := 29) (pc' := 23) dX10_commonTones_20 (by decide) rfl (by split <;> omega) (fun c20 => ?_) (fun c20 => ?_)
    · have h20 := ite1 c20
      refine wa_iconst (pc' := 30) dX10_commonTones_29 rfl ?_
      refine wa_istore_n (pc' := 31) (ls' := [(2, _), (0, _), (1, _)]) dX10_commonTones_30 rfl rfl (by decide) rfl ?_
      refine wa_iconst (pc' := 32) dX10_commonTones_31 rfl ?_
      refine wa_istore_n (pc' := 33) (ls' := [(3, _), (2, _), (0, _), (1, _)]) dX10_commonTones_32 rfl rfl (by decide) rfl ?_
      rw [if_pos (by omega), if_pos (by omega)]
      exact l_common s _ _ _ _ _ _ _ _ 0 _ _ _ _ _ _ _ _ _ _ _ _ _ i (by omega) hs hv _ 12 0 0 (by omega) (by omega) rfl
    · have h20 := ite0 c20
      refine wa_aload_n (pc' := 24) dX10_commonTones_23 rfl rfl rfl ?_
      refine wa_iconst (pc' := 25) dX10_commonTones_24 rfl ?_
      refine wa_iD2 (pc' := 28) (st := []) (k_X10_fails _ _ _ _ _ _ _ _ _ _ _ _ _ _ _ _ _ _ _ _ _ _ _ ) ok_X10_fails lm_X10_101 dX10_commonTones_25 rfl (wM_ok _ _ _ _ _ _ _ _ _ _ _ _ _ _ _ _ _ _ _ _ _ _) (Eq.refl 10) (wM_ok _ _ _ _ _ _ _ _ _ _ _ _ _ _ _ _ _ _ _ _ _ _) rfl rfl (Nat.le_of_ble_eq_true rfl) rfl rfl rfl rfl (by decide) (Nat.le_of_ble_eq_true rfl) rfl (by decide) (by decide) rfl rfl ?_
      show Wa _ _ _ _ _ _ _ _ [_] _ _ _
      refine wa_iret dX10_commonTones_28 rfl (by decide) (by decide) ?_
      first | exact zD_i (by rw [if_pos (by omega)]) (by rw [if_pos (by omega)]) | exact zD_i (by rw [if_neg (by omega)]) (by rw [if_neg (by omega)])

/-- the degree, note by note from the tonic -/
def dmR (sg ton rt : Int) : Nat → Int → Int → Int
  | 0, _, _ => 0
  | m + 1, u, n => if inS sg ((pcl ton + u) % 12) = 1 ∧ (pcl ton + u) % 12 = rt then n + inS sg ((pcl ton + u) % 12) else dmR sg ton rt m (u + 1) (n + inS sg ((pcl ton + u) % 12))
theorem dmR_all : (List.range 13).all (fun s => (List.range 2).all fun mn => (List.range 12).all fun r => decide (dmR ((s : Int) - 6) (tonO ((s : Int) - 6) mn) r 12 0 0 = dgF r ((s : Int) - 6) mn)) = true := by decide +kernel
theorem dmR_e {sg mn r : Int} (hs : -6 ≤ sg ∧ sg ≤ 6) (hm : mn = 0 ∨ mn = 1) (hr : 0 ≤ r ∧ r < 12) : dmR sg (tonO sg mn) r 12 0 0 = dgF r sg mn := by
  have h1 := of_decide_eq_true (List.all_eq_true.mp (List.all_eq_true.mp (List.all_eq_true.mp dmR_all (sg + 6).toNat (List.mem_range.mpr (by omega))) mn.toNat (List.mem_range.mpr (by omega))) r.toNat (List.mem_range.mpr (by omega)))
  rwa [show ((r.toNat : Nat) : Int) = r by omega, show ((mn.toNat : Nat) : Int) = mn by omega, show (((sg + 6).toNat : Nat) : Int) - 6 = sg by omega] at h1
set_option maxRecDepth 10000 in
set_option maxHeartbeats 1000000 in
theorem l_degree (s : zSh) (v pa : Int → Int) (sn : Int) (tx : Int → Int) (ty si fl wi th ap nt rr rq rb wh : Int) (md na : Int → Int) (nd : Int) (up lo : Int → Int) (us lw : Int) (i rt : Int) (hr : 0 ≤ rt ∧ rt < 12) (hs : okW s) (hv : Vr s v) (R : Int) : ∀ (m : Nat) (u n : Int), 0 ≤ u → u + m = 12 → dmR s.2.2.2.2.2.1 (tonO s.2.2.2.2.2.1 s.2.2.2.2.2.2) rt m u n = R → Wa q_X10_degree 3 0 0 10 (zD (some (zI R)) (wM v pa sn tx ty si fl wi 0 ap nt rr rq rb wh md na nd up lo us lw)) 39 [(4, zI u), (3, zI n), (2, zI rt), (0, zR 0), (1, zI i)] [] (wM v pa sn tx ty si fl wi 0 ap nt rr rq rb wh md na nd up lo us lw) 0 0 := by
  obtain ⟨v0, v1, v2, v3, vT, vF, vL⟩ := id hv
  have hz := hs.1
  obtain ⟨z1, z2, zT1, z4, zF1, zL1⟩ := id hz.1
  have zNm := hz.2.1
  have zg := hz.2.2.1
  have zm := hz.2.2.2.1
  have zln := hz.2.2.2.2
  have vS := Vr_sg hv zm
  have zQ1 := fun i h1 h2 => (zNm i h1 h2).2.1
  have hT : -10 ≤ tonO s.2.2.2.2.2.1 s.2.2.2.2.2.2 ∧ tonO s.2.2.2.2.2.1 s.2.2.2.2.2.2 ≤ 10 := by unfold tonO; split <;> omega
  have hp := pcl_b (tonO s.2.2.2.2.2.1 s.2.2.2.2.2.2)
  intro m
  induction m with
  | zero =>
    intro u n h0 hm hR
    refine wa_iload (pc' := 41) dX10_degree_39 rfl rfl ?_
    refine wa_bipush (pc' := 43) dX10_degree_41 rfl rfl ?_
    refine wa_icmp_ge (tgt := 106) (pc' := 46) dX10_degree_43 (by decide) rfl (by omega) (by omega) (fun c43 => ?_) (fun c43 => ?_)
    · refine wa_iconst (pc' := 107) dX10_degree_106 rfl ?_
      refine wa_iret dX10_degree_107 rfl (by decide) (by decide) ?_
      exact zD_i (by rw [← hR]; rfl) rfl
    · exact absurd c43 (by omega)
  | succ m ih =>
    intro u n h0 hm hR
    rw [dmR] at hR
    generalize hP : (pcl (tonO s.2.2.2.2.2.1 s.2.2.2.2.2.2) + u) % 12 = P at hR
    have hP2 : 0 ≤ P ∧ P < 12 := by omega
    have hi := inS_01 s.2.2.2.2.2.1 P
    refine wa_iload (pc' := 41) dX10_degree_39 rfl rfl ?_
    refine wa_bipush (pc' := 43) dX10_degree_41 rfl rfl ?_
    refine wa_icmp_ge (tgt := 106) (pc' := 46) dX10_degree_43 (by decide) rfl (by omega) (by omega) (fun c43 => ?_) (fun c43 => ?_)
    · exact absurd c43 (by omega)
    · refine wa_aload_n (pc' := 47) dX10_degree_46 rfl rfl rfl ?_
      refine wa_getfield (pc' := 50) (j := 0) zc_X10 lk_X10_7 dX10_degree_47 rfl (by decide) rfl rfl ?_
      refine wa_iconst (pc' := 51) dX10_degree_50 rfl ?_
      refine wa_iaload (pc' := 52) dX10_degree_51 rfl rfl (by omega) (by omega) (by decide) ?_
      rw [v2]
      refine wa_dS (pc' := 55) (w' := [_, _, _, _, _, _, _, _, _, _]) (k_X10_pitch (tonO s.2.2.2.2.2.1 s.2.2.2.2.2.2) (by omega)) ok_X10_pitch lm_X10_161 dX10_degree_52 rfl [] rfl (by decide) rfl rfl (by decide) (Nat.le_of_ble_eq_true rfl) rfl (by decide) (by decide) rfl rfl rfl ?_
      refine wa_iload (pc' := 57) dX10_degree_55 rfl rfl ?_
      refine wa_iadd (pc' := 58) dX10_degree_57 rfl ?_
      refine wa_dS (pc' := 61) (w' := [_, _, _, _, _, _, _, _, _, _]) (k_X10_mod12 (pcl (tonO s.2.2.2.2.2.1 s.2.2.2.2.2.2) + u) (by omega)) ok_X10_mod12 lm_X10_52 dX10_degree_58 rfl [] rfl (by decide) rfl rfl (by decide) (Nat.le_of_ble_eq_true rfl) rfl (by decide) (by decide) rfl rfl rfl ?_
      rw [hP]
      refine wa_istore (pc' := 63) (ls' := [(5, _), (4, _), (3, _), (2, _), (0, _), (1, _)]) dX10_degree_61 rfl (by decide) rfl ?_
      refine wa_aload_n (pc' := 64) dX10_degree_63 rfl rfl rfl ?_
      refine wa_rI2 (pc' := 67) (st := []) (k_X10_signatureNow s _ _ _ _ _ _ _ _ _ _ _ _ _ _ _ _ _ _ _ _ _ _ hs hv ) ok_X10_signatureNow lm_X10_171 dX10_degree_64 rfl (wM_ok _ _ _ _ _ _ _ _ _ _ _ _ _ _ _ _ _ _ _ _ _ _) rfl rfl (Nat.le_of_ble_eq_true rfl) rfl rfl rfl rfl (by decide) (Nat.le_of_ble_eq_true rfl) rfl (by decide) (by decide) rfl rfl ?_
      refine wa_iload (pc' := 69) dX10_degree_67 rfl rfl ?_
      refine wa_dS (pc' := 72) (w' := [_, _, _, _, _, _, _, _, _, _]) (k_X10_isInScale (s.2.2.2.2.2.1) P (by omega) (by omega)) ok_X10_isInScale lm_X10_174 dX10_degree_69 rfl [] rfl (by decide) rfl rfl (by decide) (Nat.le_of_ble_eq_true rfl) rfl (by decide) (by decide) rfl rfl rfl ?_
      refine wa_istore (pc' := 74) (ls' := [(6, _), (5, _), (4, _), (3, _), (2, _), (0, _), (1, _)]) dX10_degree_72 rfl (by decide) rfl ?_
      refine wa_iload_n (pc' := 75) dX10_degree_74 rfl rfl rfl ?_
      refine wa_join (J := 85) (P := fun x => x = inS s.2.2.2.2.2.1 P) (fun x85 e85 => ?_) (fun K85 => ?_)
      · refine wa_iadd (pc' := 86) dX10_degree_85 rfl ?_
        refine wa_istore_n (pc' := 87) (ls' := [(3, _), (6, _), (5, _), (4, _), (2, _), (0, _), (1, _)]) dX10_degree_86 rfl rfl (by decide) rfl ?_
        refine wa_iload (pc' := 89) dX10_degree_87 rfl rfl ?_
        refine wa_if_eq (tgt := 100) (pc' := 92) dX10_degree_89 (by decide) rfl (by omega) (fun c89 => ?_) (fun c89 => ?_)
        · refine wa_iinc (pc' := 103) (ls' := [(4, _), (3, _), (6, _), (5, _), (2, _), (0, _), (1, _)]) dX10_degree_100 rfl rfl (by decide) rfl ?_
          refine wa_goto (pc' := 39) dX10_degree_103 (by decide) ?_
          refine wa_sub [0, 1, 4, 5, 6] rfl ?_
          exact ih (u + 1) (n + x85) (by omega) (by omega) (by rw [← hR, if_neg (by omega), e85])
        · refine wa_iload (pc' := 94) dX10_degree_92 rfl rfl ?_
          refine wa_iload_n (pc' := 95) dX10_degree_94 rfl rfl rfl ?_
          refine wa_icmp_ne (tgt := 100) (pc' := 98) dX10_degree_95 (by decide) rfl (by omega) (by omega) (fun c95 => ?_) (fun c95 => ?_)
          · refine wa_iinc (pc' := 103) (ls' := [(4, _), (3, _), (6, _), (5, _), (2, _), (0, _), (1, _)]) dX10_degree_100 rfl rfl (by decide) rfl ?_
            refine wa_goto (pc' := 39) dX10_degree_103 (by decide) ?_
            refine wa_sub [0, 1, 4, 5, 6] rfl ?_
            exact ih (u + 1) (n + x85) (by omega) (by omega) (by rw [← hR, if_neg (by omega), e85])
          · refine wa_iload_n (pc' := 99) dX10_degree_98 rfl rfl rfl ?_
            refine wa_iret dX10_degree_99 rfl (by decide) (by decide) ?_
            exact zD_i (by rw [← hR, if_pos (by omega), e85]) rfl
      · refine wa_iload (pc' := 77) dX10_degree_75 rfl rfl ?_
        refine wa_if_eq (tgt := 84) (pc' := 80) dX10_degree_77 (by decide) rfl (by omega) (fun c77 => ?_) (fun c77 => ?_)
        · refine wa_iconst (pc' := 85) dX10_degree_84 rfl ?_
          exact K85 _ (by show _ = _; omega)
        · refine wa_iconst (pc' := 81) dX10_degree_80 rfl ?_
          refine wa_goto (pc' := 85) dX10_degree_81 (by decide) ?_
          exact K85 _ (by show _ = _; omega)

set_option maxRecDepth 10000 in
set_option maxHeartbeats 1000000 in
theorem k_X10_degree (s : zSh) (v pa : Int → Int) (sn : Int) (tx : Int → Int) (ty si fl wi th ap nt rr rq rb wh : Int) (md na : Int → Int) (nd : Int) (up lo : Int → Int) (us lw : Int) (i : Int) (hs : okW s) (hv : Vr s v) (hi : zin i) : zMet q_X10_degree 3 0 0 [zR 0, zI i] (wM v pa sn tx ty si fl wi th ap nt rr rq rb wh md na nd up lo us lw) (zD (some (zI (if 0 ≤ i ∧ i < s.2.2.2.2.1 then dgF (pcl (s.2.2.1 (i * 5 + 2))) s.2.2.2.2.2.1 s.2.2.2.2.2.2 else 0))) (wM v pa sn tx ty si fl wi (if 0 ≤ i ∧ i < s.2.2.2.2.1 then 0 else 1) ap nt rr rq rb wh md na nd up lo us lw)) := by
  refine z_introF (ls := [(0, _), (1, _)]) (by decide +kernel) rfl (fun _ _ => rfl) (fun _ _ => Nat.le_of_ble_eq_true rfl) ?_
  obtain ⟨v0, v1, v2, v3, vT, vF, vL⟩ := id hv
  have hz := hs.1
  obtain ⟨z1, z2, zT1, z4, zF1, zL1⟩ := id hz.1
  have zNm := hz.2.1
  have zg := hz.2.2.1
  have zm := hz.2.2.2.1
  have zln := hz.2.2.2.2
  have vS := Vr_sg hv zm
  have zQ1 := fun i h1 h2 => (zNm i h1 h2).2.1
  refine wa_aload_n (pc' := 1) dX10_degree_0 rfl rfl rfl ?_
  refine wa_iconst (pc' := 2) dX10_degree_1 rfl ?_
  refine wa_putfield (pc' := 5) (j := 8) (w' := [zO _ [_, _, _, _, _, _, _, _, _, _, _, _, _, _, _, _, _, _, _, _, _, _, _, _], _, _, _, _, _, _, _, _, _]) zc_X10 lk_X10_46 dX10_degree_2 rfl (by decide) rfl rfl (Nat.le_of_ble_eq_true rfl) True.intro rfl ?_
  refine wa_aload_n (pc' := 6) dX10_degree_5 rfl rfl rfl ?_
  refine wa_iload_n (pc' := 7) dX10_degree_6 rfl rfl rfl ?_
  refine wa_rI2 (pc' := 10) (st := []) (k_X10_isChord s _ _ _ _ _ _ _ _ _ _ _ _ _ _ _ _ _ _ _ _ _ _ _ hs hv (by omega) ) ok_X10_isChord lm_X10_127 dX10_degree_7 rfl (wM_ok _ _ _ _ _ _ _ _ _ _ _ _ _ _ _ _ _ _ _ _ _ _) rfl rfl (Nat.le_of_ble_eq_true rfl) rfl rfl rfl rfl (by decide) (Nat.le_of_ble_eq_true rfl) rfl (by decide) (by decide) rfl rfl ?_
  refine wa_if_ne (tgt := 19) (pc' := 13) dX10_degree_10 (by decide) rfl (by split <;> omega) (fun c10 => ?_) (fun c10 => ?_)
  · have h10 := ite1 c10
    have f2 := Vr_F hv (i := i) (f := 2) (by omega) (by omega)
    have f3 := Vr_F hv (i := i) (f := 3) (by omega) (by omega)
    have f4 := Vr_F hv (i := i) (f := 4) (by omega) (by omega)
    have b2 := zF1 (i * 5 + 2) (by omega) (by omega)
    have b4 := zF1 (i * 5 + 4) (by omega) (by omega)
    have b3 := zQ1 i (by omega) (by omega)
    refine wa_aload_n (pc' := 20) dX10_degree_19 rfl rfl rfl ?_
    refine wa_getfield (pc' := 23) (j := 0) zc_X10 lk_X10_7 dX10_degree_20 rfl (by decide) rfl rfl ?_
    refine wa_iload_n (pc' := 24) dX10_degree_23 rfl rfl rfl ?_
    refine wa_dS (pc' := 27) (w' := [_, _, _, _, _, _, _, _, _, _]) (k_X10_chord i (by omega)) ok_X10_chord lm_X10_94 dX10_degree_24 rfl [] rfl (by decide) rfl rfl (by decide) (Nat.le_of_ble_eq_true rfl) rfl (by decide) (by decide) rfl rfl rfl ?_
    refine wa_iconst (pc' := 28) dX10_degree_27 rfl ?_
    refine wa_iadd (pc' := 29) dX10_degree_28 rfl ?_
    refine wa_iaload (pc' := 30) dX10_degree_29 rfl rfl (by omega) (by omega) (by decide) ?_
    rw [f2]
    refine wa_dS (pc' := 33) (w' := [_, _, _, _, _, _, _, _, _, _]) (k_X10_pitch (s.2.2.1 (i * 5 + 2)) (by omega)) ok_X10_pitch lm_X10_161 dX10_degree_30 rfl [] rfl (by decide) rfl rfl (by decide) (Nat.le_of_ble_eq_true rfl) rfl (by decide) (by decide) rfl rfl rfl ?_
    refine wa_istore_n (pc' := 34) (ls' := [(2, _), (0, _), (1, _)]) dX10_degree_33 rfl rfl (by decide) rfl ?_
    refine wa_iconst (pc' := 35) dX10_degree_34 rfl ?_
    refine wa_istore_n (pc' := 36) (ls' := [(3, _), (2, _), (0, _), (1, _)]) dX10_degree_35 rfl rfl (by decide) rfl ?_
    refine wa_iconst (pc' := 37) dX10_degree_36 rfl ?_
    refine wa_istore (pc' := 39) (ls' := [(4, _), (3, _), (2, _), (0, _), (1, _)]) dX10_degree_37 rfl (by decide) rfl ?_
    rw [if_pos (by omega), if_pos (by omega)]
    exact l_degree s _ _ _ _ _ _ _ _ 0 _ _ _ _ _ _ _ _ _ _ _ _ _ i _ (pcl_b _) hs hv _ 12 0 0 (by omega) (by omega) (dmR_e zg zm (pcl_b _))
  · have h10 := ite0 c10
    refine wa_aload_n (pc' := 14) dX10_degree_13 rfl rfl rfl ?_
    refine wa_iconst (pc' := 15) dX10_degree_14 rfl ?_
    refine wa_iD2 (pc' := 18) (st := []) (k_X10_fails _ _ _ _ _ _ _ _ _ _ _ _ _ _ _ _ _ _ _ _ _ _ _ ) ok_X10_fails lm_X10_101 dX10_degree_15 rfl (wM_ok _ _ _ _ _ _ _ _ _ _ _ _ _ _ _ _ _ _ _ _ _ _) (Eq.refl 10) (wM_ok _ _ _ _ _ _ _ _ _ _ _ _ _ _ _ _ _ _ _ _ _ _) rfl rfl (Nat.le_of_ble_eq_true rfl) rfl rfl rfl rfl (by decide) (Nat.le_of_ble_eq_true rfl) rfl (by decide) (by decide) rfl rfl ?_
    show Wa _ _ _ _ _ _ _ _ [_] _ _ _
    refine wa_iret dX10_degree_18 rfl (by decide) (by decide) ?_
    first | exact zD_i (by rw [if_pos (by omega)]) (by rw [if_pos (by omega)]) | exact zD_i (by rw [if_neg (by omega)]) (by rw [if_neg (by omega)])

set_option maxRecDepth 10000 in
set_option maxHeartbeats 1000000 in
theorem l_score (s : zSh) (v pa : Int → Int) (sn : Int) (tx : Int → Int) (ty si fl wi th ap nt rr rq rb wh : Int) (md na : Int → Int) (nd : Int) (up lo : Int → Int) (us lw : Int) (pl mn : Int) (hp : -6 ≤ pl - 3 * mn ∧ pl - 3 * mn ≤ 6) (hm9 : mn = 0 ∨ mn = 1) (hs : okW s) (hv : Vr s v) (R : Int) : ∀ (m : Nat) (i n : Int), 0 ≤ i → i + m = s.2.2.2.2.1 → scR s.2.2.1 (sigO pl mn) mn (s.2.2.2.2.1 - 1) m i n = R → Wa q_X10_scoreOf 3 0 0 10 (zD (some (zI R)) (wM v pa sn tx ty si fl wi th ap nt rr rq rb wh md na nd up lo us lw)) 5 [(4, zI i), (3, zI n), (0, zR 0), (1, zI pl), (2, zI mn)] [] (wM v pa sn tx ty si fl wi th ap nt rr rq rb wh md na nd up lo us lw) 0 0 := by
  obtain ⟨v0, v1, v2, v3, vT, vF, vL⟩ := id hv
  have hz := hs.1
  obtain ⟨z1, z2, zT1, z4, zF1, zL1⟩ := id hz.1
  have zNm := hz.2.1
  have zg := hz.2.2.1
  have zm := hz.2.2.2.1
  have zln := hz.2.2.2.2
  have vS := Vr_sg hv zm
  have zQ1 := fun i h1 h2 => (zNm i h1 h2).2.1
  have hS : (mn = 0 ∧ sigO pl mn = pl) ∨ (mn = 1 ∧ sigO pl mn = pl - 3) := by unfold sigO; split <;> omega
  have hton : tonO (sigO pl mn) mn = pl := by unfold tonO sigO; split <;> omega
  intro m
  induction m with
  | zero =>
    intro i n h0 hm hR
    refine wa_iload (pc' := 7) dX10_scoreOf_5 rfl rfl ?_
    refine wa_aload_n (pc' := 8) dX10_scoreOf_7 rfl rfl rfl ?_
    refine wa_getfield (pc' := 11) (j := 0) zc_X10 lk_X10_7 dX10_scoreOf_8 rfl (by decide) rfl rfl ?_
    refine wa_iconst (pc' := 12) dX10_scoreOf_11 rfl ?_
    refine wa_iaload (pc' := 13) dX10_scoreOf_12 rfl rfl (by omega) (by omega) (by decide) ?_
    refine wa_icmp_ge (tgt := 153) (pc' := 16) dX10_scoreOf_13 (by decide) rfl (by omega) (by omega) (fun c13 => ?_) (fun c13 => ?_)
    · refine wa_iload_n (pc' := 154) dX10_scoreOf_153 rfl rfl rfl ?_
      refine wa_iret dX10_scoreOf_154 rfl (by decide) (by decide) ?_
      exact zD_i (by rw [← hR]; rfl) rfl
    · exact absurd c13 (by omega)
  | succ m ih =>
    intro i n h0 hm hR
    have f2 := Vr_F hv (i := i) (f := 2) (by omega) (by omega)
    have f3 := Vr_F hv (i := i) (f := 3) (by omega) (by omega)
    have f4 := Vr_F hv (i := i) (f := 4) (by omega) (by omega)
    have b2 := zF1 (i * 5 + 2) (by omega) (by omega)
    have b4 := zF1 (i * 5 + 4) (by omega) (by omega)
    have b3 := zQ1 i (by omega) (by omega)
    have hpb := pcl_b (s.2.2.1 (i * 5 + 2))
    have hpl := pcl_b pl
    have hiS := inS_01 (sigO pl mn) (pcl (s.2.2.1 (i * 5 + 2)))
    rw [scR, sc1, hton] at hR
    generalize hQ : zMinor.getD (s.2.2.1 (i * 5 + 3)).toNat 0 = Q9 at hR
    have hQ2 : Q9 = 0 ∨ Q9 = 1 := by rw [← hQ, mnC b3]; split <;> omega
    refine wa_iload (pc' := 7) dX10_scoreOf_5 rfl rfl ?_
    refine wa_aload_n (pc' := 8) dX10_scoreOf_7 rfl rfl rfl ?_
    refine wa_getfield (pc' := 11) (j := 0) zc_X10 lk_X10_7 dX10_scoreOf_8 rfl (by decide) rfl rfl ?_
    refine wa_iconst (pc' := 12) dX10_scoreOf_11 rfl ?_
    refine wa_iaload (pc' := 13) dX10_scoreOf_12 rfl rfl (by omega) (by omega) (by decide) ?_
    refine wa_icmp_ge (tgt := 153) (pc' := 16) dX10_scoreOf_13 (by decide) rfl (by omega) (by omega) (fun c13 => ?_) (fun c13 => ?_)
    · exact absurd c13 (by omega)
    · refine wa_aload_n (pc' := 17) dX10_scoreOf_16 rfl rfl rfl ?_
      refine wa_getfield (pc' := 20) (j := 0) zc_X10 lk_X10_7 dX10_scoreOf_17 rfl (by decide) rfl rfl ?_
      refine wa_iload (pc' := 22) dX10_scoreOf_20 rfl rfl ?_
      refine wa_dS (pc' := 25) (w' := [_, _, _, _, _, _, _, _, _, _]) (k_X10_chord i (by omega)) ok_X10_chord lm_X10_94 dX10_scoreOf_22 rfl [] rfl (by decide) rfl rfl (by decide) (Nat.le_of_ble_eq_true rfl) rfl (by decide) (by decide) rfl rfl rfl ?_
      refine wa_iconst (pc' := 26) dX10_scoreOf_25 rfl ?_
      refine wa_iadd (pc' := 27) dX10_scoreOf_26 rfl ?_
      refine wa_iaload (pc' := 28) dX10_scoreOf_27 rfl rfl (by omega) (by omega) (by decide) ?_
      rw [f2]
      refine wa_dS (pc' := 31) (w' := [_, _, _, _, _, _, _, _, _, _]) (k_X10_pitch (s.2.2.1 (i * 5 + 2)) (by omega)) ok_X10_pitch lm_X10_161 dX10_scoreOf_28 rfl [] rfl (by decide) rfl rfl (by decide) (Nat.le_of_ble_eq_true rfl) rfl (by decide) (by decide) rfl rfl rfl ?_
      refine wa_istore (pc' := 33) (ls' := [(5, _), (4, _), (3, _), (0, _), (1, _), (2, _)]) dX10_scoreOf_31 rfl (by decide) rfl ?_
      refine wa_join (J := 47) (P := fun x => x = 1 ∧ (pcl (s.2.2.1 (i * 5 + 2)) = pcl pl) ∨ x = 0 ∧ ¬ (pcl (s.2.2.1 (i * 5 + 2)) = pcl pl)) (fun x47 e47 => ?_) (fun K47 => ?_)
      · refine wa_istore (pc' := 49) (ls' := [(6, _), (5, _), (4, _), (3, _), (0, _), (1, _), (2, _)]) dX10_scoreOf_47 rfl (by decide) rfl ?_
        refine wa_iload_n (pc' := 50) dX10_scoreOf_49 rfl rfl rfl ?_
        refine wa_join (J := 74) (P := fun x => x = 2 ∧ (inS (sigO pl mn) (pcl (s.2.2.1 (i * 5 + 2))) = 1) ∨ x = 0 ∧ ¬ (inS (sigO pl mn) (pcl (s.2.2.1 (i * 5 + 2))) = 1)) (fun x74 e74 => ?_) (fun K74 => ?_)
        · refine wa_iadd (pc' := 75) dX10_scoreOf_74 rfl ?_
          refine wa_istore_n (pc' := 76) (ls' := [(3, _), (6, _), (5, _), (4, _), (0, _), (1, _), (2, _)]) dX10_scoreOf_75 rfl rfl (by decide) rfl ?_
          refine wa_iload_n (pc' := 77) dX10_scoreOf_76 rfl rfl rfl ?_
          refine wa_join (J := 87) (P := fun x => x = x47) (fun x87 e87 => ?_) (fun K87 => ?_)
          · refine wa_iadd (pc' := 88) dX10_scoreOf_87 rfl ?_
            refine wa_istore_n (pc' := 89) (ls' := [(3, _), (6, _), (5, _), (4, _), (0, _), (1, _), (2, _)]) dX10_scoreOf_88 rfl rfl (by decide) rfl ?_
            refine wa_iload_n (pc' := 90) dX10_scoreOf_89 rfl rfl rfl ?_
            refine wa_join (J := 119) (P := fun x => x = 1 ∧ (x47 = 1 ∧ Q9 = mn) ∨ x = 0 ∧ ¬ (x47 = 1 ∧ Q9 = mn)) (fun x119 e119 => ?_) (fun K119 => ?_)
            · refine wa_iadd (pc' := 120) dX10_scoreOf_119 rfl ?_
              refine wa_istore_n (pc' := 121) (ls' := [(3, _), (6, _), (5, _), (4, _), (0, _), (1, _), (2, _)]) dX10_scoreOf_120 rfl rfl (by decide) rfl ?_
              refine wa_iload_n (pc' := 122) dX10_scoreOf_121 rfl rfl rfl ?_
              refine wa_join (J := 145) (P := fun x => x = 2 ∧ (x47 = 1 ∧ i = s.2.2.2.2.1 - 1) ∨ x = 0 ∧ ¬ (x47 = 1 ∧ i = s.2.2.2.2.1 - 1)) (fun x145 e145 => ?_) (fun K145 => ?_)
              · refine wa_iadd (pc' := 146) dX10_scoreOf_145 rfl ?_
                refine wa_istore_n (pc' := 147) (ls' := [(3, _), (6, _), (5, _), (4, _), (0, _), (1, _), (2, _)]) dX10_scoreOf_146 rfl rfl (by decide) rfl ?_
                refine wa_iinc (pc' := 150) (ls' := [(4, _), (3, _), (6, _), (5, _), (0, _), (1, _), (2, _)]) dX10_scoreOf_147 rfl rfl (by decide) rfl ?_
                refine wa_goto (pc' := 5) dX10_scoreOf_150 (by decide) ?_
                refine wa_sub [0, 1, 4, 5, 6] rfl ?_
                refine ih (i + 1) (n + x74 + x87 + x119 + x145) (by omega) (by omega) ?_
                rw [← hR]; congr 1
                have q1 : (if inS (sigO pl mn) (pcl (s.2.2.1 (i * 5 + 2))) = 1 then (2 : Int) else 0) = x74 := by split <;> omega
                have q2 : (if pcl (s.2.2.1 (i * 5 + 2)) = pcl pl then 1 + (if Q9 = mn then 1 else 0) + (if i = s.2.2.2.2.1 - 1 then 2 else 0) else 0) = x87 + x119 + x145 := by
                  by_cases w1 : pcl (s.2.2.1 (i * 5 + 2)) = pcl pl
                  · rw [if_pos w1]
                    by_cases w2 : Q9 = mn <;> by_cases w3 : i = s.2.2.2.2.1 - 1 <;> simp only [w2, w3, if_true, if_false, if_pos, if_neg, not_false_eq_true] <;> omega
                  · rw [if_neg w1]; omega
                rw [q1, q2]; omega
              · refine wa_iload (pc' := 124) dX10_scoreOf_122 rfl rfl ?_
                refine wa_if_eq (tgt := 144) (pc' := 127) dX10_scoreOf_124 (by decide) rfl (by omega) (fun c124 => ?_) (fun c124 => ?_)
                · refine wa_iconst (pc' := 145) dX10_scoreOf_144 rfl ?_
                  exact K145 _ (by show _ ∨ _; omega)
                · refine wa_iload (pc' := 129) dX10_scoreOf_127 rfl rfl ?_
                  refine wa_aload_n (pc' := 130) dX10_scoreOf_129 rfl rfl rfl ?_
                  refine wa_getfield (pc' := 133) (j := 0) zc_X10 lk_X10_7 dX10_scoreOf_130 rfl (by decide) rfl rfl ?_
                  refine wa_iconst (pc' := 134) dX10_scoreOf_133 rfl ?_
                  refine wa_iaload (pc' := 135) dX10_scoreOf_134 rfl rfl (by omega) (by omega) (by decide) ?_
                  refine wa_iconst (pc' := 136) dX10_scoreOf_135 rfl ?_
                  refine wa_isub (pc' := 137) dX10_scoreOf_136 rfl ?_
                  refine wa_icmp_ne (tgt := 144) (pc' := 140) dX10_scoreOf_137 (by decide) rfl (by omega) (by omega) (fun c137 => ?_) (fun c137 => ?_)
                  · refine wa_iconst (pc' := 145) dX10_scoreOf_144 rfl ?_
                    exact K145 _ (by show _ ∨ _; omega)
                  · refine wa_iconst (pc' := 141) dX10_scoreOf_140 rfl ?_
                    refine wa_goto (pc' := 145) dX10_scoreOf_141 (by decide) ?_
                    exact K145 _ (by show _ ∨ _; omega)
            · refine wa_iload (pc' := 92) dX10_scoreOf_90 rfl rfl ?_
              refine wa_if_eq (tgt := 118) (pc' := 95) dX10_scoreOf_92 (by decide) rfl (by omega) (fun c92 => ?_) (fun c92 => ?_)
              · refine wa_iconst (pc' := 119) dX10_scoreOf_118 rfl ?_
                exact K119 _ (by show _ ∨ _; omega)
              · refine wa_aload_n (pc' := 96) dX10_scoreOf_95 rfl rfl rfl ?_
                refine wa_getfield (pc' := 99) (j := 0) zc_X10 lk_X10_7 dX10_scoreOf_96 rfl (by decide) rfl rfl ?_
                refine wa_iload (pc' := 101) dX10_scoreOf_99 rfl rfl ?_
                refine wa_dS (pc' := 104) (w' := [_, _, _, _, _, _, _, _, _, _]) (k_X10_chord i (by omega)) ok_X10_chord lm_X10_94 dX10_scoreOf_101 rfl [] rfl (by decide) rfl rfl (by decide) (Nat.le_of_ble_eq_true rfl) rfl (by decide) (by decide) rfl rfl rfl ?_
                refine wa_iconst (pc' := 105) dX10_scoreOf_104 rfl ?_
                refine wa_iadd (pc' := 106) dX10_scoreOf_105 rfl ?_
                refine wa_iaload (pc' := 107) dX10_scoreOf_106 rfl rfl (by omega) (by omega) (by decide) ?_
                rw [f3]
                refine wa_dS (pc' := 110) (w' := [_, _, _, _, _, _, _, _, _, _]) (k_X10_isMinorChord (s.2.2.1 (i * 5 + 3)) (by omega)) ok_X10_isMinorChord lm_X10_181 dX10_scoreOf_107 rfl [] rfl (by decide) rfl rfl (by decide) (Nat.le_of_ble_eq_true rfl) rfl (by decide) (by decide) rfl rfl rfl ?_
                rw [hQ]
                refine wa_iload_n (pc' := 111) dX10_scoreOf_110 rfl rfl rfl ?_
                refine wa_icmp_ne (tgt := 118) (pc' := 114) dX10_scoreOf_111 (by decide) rfl (by omega) (by omega) (fun c111 => ?_) (fun c111 => ?_)
                · refine wa_iconst (pc' := 119) dX10_scoreOf_118 rfl ?_
                  exact K119 _ (by show _ ∨ _; omega)
                · refine wa_iconst (pc' := 115) dX10_scoreOf_114 rfl ?_
                  refine wa_goto (pc' := 119) dX10_scoreOf_115 (by decide) ?_
                  exact K119 _ (by show _ ∨ _; omega)
          · refine wa_iload (pc' := 79) dX10_scoreOf_77 rfl rfl ?_
            refine wa_if_eq (tgt := 86) (pc' := 82) dX10_scoreOf_79 (by decide) rfl (by omega) (fun c79 => ?_) (fun c79 => ?_)
            · refine wa_iconst (pc' := 87) dX10_scoreOf_86 rfl ?_
              exact K87 _ (by show _ = _; omega)
            · refine wa_iconst (pc' := 83) dX10_scoreOf_82 rfl ?_
              refine wa_goto (pc' := 87) dX10_scoreOf_83 (by decide) ?_
              exact K87 _ (by show _ = _; omega)
        · refine wa_join (J := 61) (P := fun x => x = sigO pl mn) (fun x61 e61 => ?_) (fun K61 => ?_)
          · subst e61
            refine wa_iload (pc' := 63) dX10_scoreOf_61 rfl rfl ?_
            refine wa_dS (pc' := 66) (w' := [_, _, _, _, _, _, _, _, _, _]) (k_X10_isInScale _ (pcl (s.2.2.1 (i * 5 + 2))) (by omega) hpb) ok_X10_isInScale lm_X10_174 dX10_scoreOf_63 rfl [] rfl (by decide) rfl rfl (by decide) (Nat.le_of_ble_eq_true rfl) rfl (by decide) (by decide) rfl rfl rfl ?_
            refine wa_if_eq (tgt := 73) (pc' := 69) dX10_scoreOf_66 (by decide) rfl (by omega) (fun c66 => ?_) (fun c66 => ?_)
            · refine wa_iconst (pc' := 74) dX10_scoreOf_73 rfl ?_
              exact K74 _ (by show _ ∨ _; omega)
            · refine wa_iconst (pc' := 70) dX10_scoreOf_69 rfl ?_
              refine wa_goto (pc' := 74) dX10_scoreOf_70 (by decide) ?_
              exact K74 _ (by show _ ∨ _; omega)
          · refine wa_iload_n (pc' := 51) dX10_scoreOf_50 rfl rfl rfl ?_
            refine wa_if_eq (tgt := 60) (pc' := 54) dX10_scoreOf_51 (by decide) rfl (by omega) (fun c51 => ?_) (fun c51 => ?_)
            · refine wa_iload_n (pc' := 61) dX10_scoreOf_60 rfl rfl rfl ?_
              exact K61 _ (by show _ = _; omega)
            · refine wa_iload_n (pc' := 55) dX10_scoreOf_54 rfl rfl rfl ?_
              refine wa_iconst (pc' := 56) dX10_scoreOf_55 rfl ?_
              refine wa_isub (pc' := 57) dX10_scoreOf_56 rfl ?_
              refine wa_goto (pc' := 61) dX10_scoreOf_57 (by decide) ?_
              exact K61 _ (by show _ = _; omega)
      · refine wa_iload (pc' := 35) dX10_scoreOf_33 rfl rfl ?_
        refine wa_iload_n (pc' := 36) dX10_scoreOf_35 rfl rfl rfl ?_
        refine wa_dS (pc' := 39) (w' := [_, _, _, _, _, _, _, _, _, _]) (k_X10_pitch pl (by omega)) ok_X10_pitch lm_X10_161 dX10_scoreOf_36 rfl [] rfl (by decide) rfl rfl (by decide) (Nat.le_of_ble_eq_true rfl) rfl (by decide) (by decide) rfl rfl rfl ?_
        refine wa_icmp_ne (tgt := 46) (pc' := 42) dX10_scoreOf_39 (by decide) rfl (by omega) (by omega) (fun c39 => ?_) (fun c39 => ?_)
        · refine wa_iconst (pc' := 47) dX10_scoreOf_46 rfl ?_
          exact K47 _ (by show _ ∨ _; have := pcl_b pl; omega)
        · refine wa_iconst (pc' := 43) dX10_scoreOf_42 rfl ?_
          refine wa_goto (pc' := 47) dX10_scoreOf_43 (by decide) ?_
          exact K47 _ (by show _ ∨ _; have := pcl_b pl; omega)

set_option maxRecDepth 10000 in
set_option maxHeartbeats 1000000 in
theorem k_X10_scoreOf (s : zSh) (v pa : Int → Int) (sn : Int) (tx : Int → Int) (ty si fl wi th ap nt rr rq rb wh : Int) (md na : Int → Int) (nd : Int) (up lo : Int → Int) (us lw : Int) (pl : Int) (mn : Int) (hs : okW s) (hv : Vr s v) (hp : -6 ≤ pl - 3 * mn ∧ pl - 3 * mn ≤ 6) (hm9 : mn = 0 ∨ mn = 1) : zMet q_X10_scoreOf 3 0 0 [zR 0, zI pl, zI mn] (wM v pa sn tx ty si fl wi th ap nt rr rq rb wh md na nd up lo us lw) (zD (some (zI (scF s.2.2.1 s.2.2.2.2.1 (sigO pl mn) mn))) (wM v pa sn tx ty si fl wi th ap nt rr rq rb wh md na nd up lo us lw)) := by
  refine z_introF (ls := [(0, _), (1, _), (2, _)]) (by decide +kernel) rfl (fun _ _ => rfl) (fun _ _ => Nat.le_of_ble_eq_true rfl) ?_
  obtain ⟨v0, v1, v2, v3, vT, vF, vL⟩ := id hv
  have hz := hs.1
  obtain ⟨z1, z2, zT1, z4, zF1, zL1⟩ := id hz.1
  have zNm := hz.2.1
  have zg := hz.2.2.1
  have zm := hz.2.2.2.1
  have zln := hz.2.2.2.2
  have vS := Vr_sg hv zm
  have zQ1 := fun i h1 h2 => (zNm i h1 h2).2.1
  refine wa_iconst (pc' := 1) dX10_scoreOf_0 rfl ?_
  refine wa_istore_n (pc' := 2) (ls' := [(3, _), (0, _), (1, _), (2, _)]) dX10_scoreOf_1 rfl rfl (by decide) rfl ?_
  refine wa_iconst (pc' := 3) dX10_scoreOf_2 rfl ?_
  refine wa_istore (pc' := 5) (ls' := [(4, _), (3, _), (0, _), (1, _), (2, _)]) dX10_scoreOf_3 rfl (by decide) rfl ?_
  exact l_score s _ _ _ _ _ _ _ _ _ _ _ _ _ _ _ _ _ _ _ _ _ _ pl mn hp hm9 hs hv _ s.2.2.2.2.1.toNat 0 0 (by omega) (by omega) rfl

