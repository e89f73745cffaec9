set_option maxRecDepth 10000 in
set_option maxHeartbeats 1000000 in
theorem k_X10_score (s : zSh) (v pa : Int → Int) (sn : Int) (tx : Int → Int) (ty si fl wi th ap nt rr rq rb wh : Int) (md na : Int → Int) (nd : Int) (up lo : Int → Int) (us lw : Int) (p : Int) (b : Int) (hs : okW s) (hv : Vr s v) (hp : zin p) (hb : b = 0 ∨ b = 1) : zMet q_X10_score 4 0 0 [zR 0, zI p, zI b] (wM v pa sn tx ty si fl wi th ap nt rr rq rb wh md na nd up lo us lw) (zD (some (zI (if -6 ≤ p - 3 * b ∧ p - 3 * b ≤ 6 then scF s.2.2.1 s.2.2.2.2.1 (sigO p b) b else 0))) (wM v pa sn tx ty si fl wi (if -6 ≤ p - 3 * b ∧ p - 3 * b ≤ 6 then 0 else 1) ap nt rr rq rb wh md na nd up lo us lw)) := by
  refine z_introF (ls := [(0, _), (1, _), (2, _)]) (by decide +kernel) rfl (fun _ _ => rfl) (fun _ _ => Nat.le_of_ble_eq_true rfl) ?_
  obtain ⟨v0, v1, v2, v3, vT, vF, vL⟩ := id hv
  have hz := hs.1
  obtain ⟨z1, z2, zT1, z4, zF1, zL1⟩ := id hz.1
  have zNm := hz.2.1
  have zg := hz.2.2.1
  have zm := hz.2.2.2.1
  have zln := hz.2.2.2.2
  have vS := Vr_sg hv zm
  have zQ1 := fun i h1 h2 => (zNm i h1 h2).2.1
  refine wa_aload_n (pc' := 1) dX10_score_0 rfl rfl rfl ?_
  refine wa_iconst (pc' := 2) dX10_score_1 rfl ?_
  refine wa_putfield (pc' := 5) (j := 8) (w' := [zO _ [_, _, _, _, _, _, _, _, _, _, _, _, _, _, _, _, _, _, _, _, _, _, _, _], _, _, _, _, _, _, _, _, _]) zc_X10 lk_X10_46 dX10_score_2 rfl (by decide) rfl rfl (Nat.le_of_ble_eq_true rfl) True.intro rfl ?_
  refine wa_iload_n (pc' := 6) dX10_score_5 rfl rfl rfl ?_
  refine wa_iload_n (pc' := 7) dX10_score_6 rfl rfl rfl ?_
  refine wa_dS (pc' := 10) (w' := [_, _, _, _, _, _, _, _, _, _]) (k_X10_isKey _ _ (by omega) (by omega)) ok_X10_isKey lm_X10_177 dX10_score_7 rfl [] rfl (by decide) rfl rfl (by decide) (Nat.le_of_ble_eq_true rfl) rfl (by decide) (by decide) rfl rfl rfl ?_
  refine wa_if_eq (tgt := 22) (pc' := 13) dX10_score_10 (by decide) rfl (by split <;> omega) (fun c10 => ?_) (fun c10 => ?_)
  · have h10 := ite0 c10
    refine wa_aload_n (pc' := 23) dX10_score_22 rfl rfl rfl ?_
    refine wa_iconst (pc' := 24) dX10_score_23 rfl ?_
    refine wa_iD2 (pc' := 27) (st := []) (k_X10_fails _ _ _ _ _ _ _ _ _ _ _ _ _ _ _ _ _ _ _ _ _ _ _ ) ok_X10_fails lm_X10_101 dX10_score_24 rfl (wM_ok _ _ _ _ _ _ _ _ _ _ _ _ _ _ _ _ _ _ _ _ _ _) (Eq.refl 10) (wM_ok _ _ _ _ _ _ _ _ _ _ _ _ _ _ _ _ _ _ _ _ _ _) rfl rfl (Nat.le_of_ble_eq_true rfl) rfl rfl rfl rfl (by decide) (Nat.le_of_ble_eq_true rfl) rfl (by decide) (by decide) rfl rfl ?_
    show Wa _ _ _ _ _ _ _ _ [_] _ _ _
    refine wa_iret dX10_score_27 rfl (by decide) (by decide) ?_
    first | exact zD_i (by rw [if_pos (by omega)]) (by rw [if_pos (by omega)]) | exact zD_i (by rw [if_neg (by omega)]) (by rw [if_neg (by omega)])
  · have h10 := ite1 c10
    refine wa_aload_n (pc' := 14) dX10_score_13 rfl rfl rfl ?_
    refine wa_iload_n (pc' := 15) dX10_score_14 rfl rfl rfl ?_
    refine wa_iload_n (pc' := 16) dX10_score_15 rfl rfl rfl ?_
    refine wa_rI2 (pc' := 19) (st := []) (k_X10_scoreOf s _ _ _ _ _ _ _ _ _ _ _ _ _ _ _ _ _ _ _ _ _ _ p b hs hv (by omega) (by omega)) ok_X10_scoreOf lm_X10_184 dX10_score_16 rfl (wM_ok _ _ _ _ _ _ _ _ _ _ _ _ _ _ _ _ _ _ _ _ _ _) rfl rfl (Nat.le_of_ble_eq_true rfl) rfl rfl rfl rfl (by decide) (Nat.le_of_ble_eq_true rfl) rfl (by decide) (by decide) rfl rfl ?_
    refine wa_goto (pc' := 27) dX10_score_19 (by decide) ?_
    refine wa_iret dX10_score_27 rfl (by decide) (by decide) ?_
    first | exact zD_i (by rw [if_pos (by omega)]) (by rw [if_pos (by omega)]) | exact zD_i (by rw [if_neg (by omega)]) (by rw [if_neg (by omega)])

/-- the signatures in the order in which they are tried -/
def sgk (k : Int) : Int := if k % 2 = 1 then k / 2 + 1 else -(k / 2)
theorem sgk_b {k : Int} (h : 0 ≤ k ∧ k ≤ 12) : -6 ≤ sgk k ∧ sgk k ≤ 6 := by unfold sgk; split <;> omega
def fdR (sc val : Int → Int) : Nat → Int → Int → Int → Int × Int
  | 0, _, b, s => (b, s)
  | m + 1, k, b, s => if s < sc (sgk k) then fdR sc val m (k + 1) (val (sgk k)) (sc (sgk k)) else fdR sc val m (k + 1) b s
theorem fdR_th (sc val : Int → Int) (b0 s0 : Int) : ∀ (m : Nat) (k bx sx : Int), fdR sc val m k (if s0 < sx then bx else b0) (if s0 < sx then sx else s0) = (if s0 < (fdR sc val m k bx sx).2 then (fdR sc val m k bx sx).1 else b0, if s0 < (fdR sc val m k bx sx).2 then (fdR sc val m k bx sx).2 else s0)
  | 0, k, bx, sx => rfl
  | m + 1, k, bx, sx => by
    rw [fdR, fdR]
    by_cases h1 : s0 < sx
    · rw [if_pos h1, if_pos h1]
      by_cases h2 : sx < sc (sgk k)
      · rw [if_pos h2]
        have h3 := fdR_th sc val b0 s0 m (k + 1) (val (sgk k)) (sc (sgk k))
        rw [if_pos (show s0 < sc (sgk k) by omega), if_pos (show s0 < sc (sgk k) by omega)] at h3
        exact h3
      · rw [if_neg h2]
        have h3 := fdR_th sc val b0 s0 m (k + 1) bx sx
        rw [if_pos h1, if_pos h1] at h3
        exact h3
    · rw [if_neg h1, if_neg h1]
      by_cases h2 : s0 < sc (sgk k)
      · rw [if_pos h2, if_pos (show sx < sc (sgk k) by omega)]
        have h3 := fdR_th sc val b0 s0 m (k + 1) (val (sgk k)) (sc (sgk k))
        rw [if_pos h2, if_pos h2] at h3
        exact h3
      · rw [if_neg h2]
        by_cases h4 : sx < sc (sgk k)
        · rw [if_pos h4]
          have h3 := fdR_th sc val b0 s0 m (k + 1) (val (sgk k)) (sc (sgk k))
          rw [if_neg h2, if_neg h2] at h3
          exact h3
        · rw [if_neg h4]
          have h3 := fdR_th sc val b0 s0 m (k + 1) bx sx
          rw [if_neg h1, if_neg h1] at h3
          exact h3
theorem fdR_bs (sc val : Int → Int) : ∀ (m : Nat) (z b : Int), 1 ≤ z → fdR sc val (2 * m) (2 * z - 1) (val b) (sc b) = (val (bsR sc m z b (sc b)), sc (bsR sc m z b (sc b)))
  | 0, z, b, _ => rfl
  | m + 1, z, b, hz => by
    have e1 : sgk (2 * z - 1) = z := by unfold sgk; rw [if_pos (by omega)]; omega
    have e2 : sgk (2 * z - 1 + 1) = -z := by unfold sgk; rw [if_neg (by omega)]; omega
    have e3 : 2 * z - 1 + 1 + 1 = 2 * (z + 1) - 1 := by omega
    have e4 : 2 * (m + 1) = 2 * m + 1 + 1 := by omega
    rw [e4, fdR, fdR, fdR, e1, e2, e3, bsR]
    by_cases h1 : sc b < sc z
    · rw [if_pos h1, if_pos (show sc z > sc b from h1), if_pos (show sc z > sc b from h1)]
      by_cases h2 : sc z < sc (-z)
      · rw [if_pos h2, if_pos (show sc (-z) > sc z from h2), if_pos (show sc (-z) > sc z from h2)]
        exact fdR_bs sc val m (z + 1) (-z) (by omega)
      · rw [if_neg h2, if_neg (show ¬ sc (-z) > sc z from h2), if_neg (show ¬ sc (-z) > sc z from h2)]
        exact fdR_bs sc val m (z + 1) z (by omega)
    · rw [if_neg h1, if_neg (show ¬ sc z > sc b from h1), if_neg (show ¬ sc z > sc b from h1)]
      by_cases h2 : sc b < sc (-z)
      · rw [if_pos h2, if_pos (show sc (-z) > sc b from h2), if_pos (show sc (-z) > sc b from h2)]
        exact fdR_bs sc val m (z + 1) (-z) (by omega)
      · rw [if_neg h2, if_neg (show ¬ sc (-z) > sc b from h2), if_neg (show ¬ sc (-z) > sc b from h2)]
        exact fdR_bs sc val m (z + 1) b (by omega)
def scO (F : Int → Int) (cc md z : Int) : Int := scF F cc z md
def vaO (md z : Int) : Int := z + 3 * md + 100 * md
theorem fd_all (F : Int → Int) (cc : Int) : (fdR (scO F cc 1) (vaO 1) 13 0 (fdR (scO F cc 0) (vaO 0) 13 0 0 (scO F cc 0 0)).1 (fdR (scO F cc 0) (vaO 0) 13 0 0 (scO F cc 0 0)).2).1 = beF F cc := by
  have a0 : fdR (scO F cc 0) (vaO 0) 13 0 0 (scO F cc 0 0) = (bsF F cc 0, scO F cc 0 (bsF F cc 0)) := by
    have h := fdR_bs (scO F cc 0) (vaO 0) 6 1 0 (by omega)
    have e : vaO 0 0 = 0 := rfl
    rw [e] at h
    rw [fdR, show sgk 0 = 0 from rfl, if_neg (Int.lt_irrefl _)]
    have e2 : ∀ z, vaO 0 z = z := fun z => by unfold vaO; omega
    rw [e2] at h
    exact h
  have a1 := fdR_bs (scO F cc 1) (vaO 1) 6 1 0 (by omega)
  have a2 := fdR_th (scO F cc 1) (vaO 1) (bsF F cc 0) (scO F cc 0 (bsF F cc 0)) 12 1 (vaO 1 0) (scO F cc 1 0)
  rw [a0, fdR, show sgk 0 = 0 from rfl]
  have a3 : (if scO F cc 0 (bsF F cc 0) < scO F cc 1 0 then fdR (scO F cc 1) (vaO 1) 12 (0 + 1) (vaO 1 0) (scO F cc 1 0) else fdR (scO F cc 1) (vaO 1) 12 (0 + 1) (bsF F cc 0) (scO F cc 0 (bsF F cc 0))) = fdR (scO F cc 1) (vaO 1) 12 1 (if scO F cc 0 (bsF F cc 0) < scO F cc 1 0 then vaO 1 0 else bsF F cc 0) (if scO F cc 0 (bsF F cc 0) < scO F cc 1 0 then scO F cc 1 0 else scO F cc 0 (bsF F cc 0)) := by
    split <;> rfl
  show (if scO F cc 0 (bsF F cc 0) < scO F cc 1 0 then _ else _ : Int × Int).1 = _
  rw [a3, a2]
  have a4 : fdR (scO F cc 1) (vaO 1) 12 1 (vaO 1 0) (scO F cc 1 0) = (vaO 1 (bsF F cc 1), scO F cc 1 (bsF F cc 1)) := a1
  rw [a4]
  show (if scF F cc (bsF F cc 0) 0 < scF F cc (bsF F cc 1) 1 then vaO 1 (bsF F cc 1) else bsF F cc 0) = beF F cc
  unfold beF vaO tonO
  by_cases h : scF F cc (bsF F cc 0) 0 < scF F cc (bsF F cc 1) 1
  · rw [if_pos h, if_pos (show scF F cc (bsF F cc 1) 1 > scF F cc (bsF F cc 0) 0 from h), if_neg (by decide)]; omega
  · rw [if_neg h, if_neg (show ¬ scF F cc (bsF F cc 1) 1 > scF F cc (bsF F cc 0) 0 from h), if_pos rfl]
set_option maxRecDepth 10000 in
set_option maxHeartbeats 1000000 in
theorem l_found1 (s : zSh) (v pa : Int → Int) (sn : Int) (tx : Int → Int) (ty si fl wi th ap nt rr rq rb wh : Int) (md na : Int → Int) (nd : Int) (up lo : Int → Int) (us lw : Int) (mo9 : Int) (hmd : mo9 = 0 ∨ mo9 = 1) (hs : okW s) (hv : Vr s v) {Post : zP → List zE → Prop} (R : Int × Int) (kk : Wa q_X10_found 4 0 0 10 Post 99 [(4, zI 13), (3, zI mo9), (2, zI R.2), (1, zI R.1), (0, zR 0)] [] (wM v pa sn tx ty si fl wi th ap nt rr rq rb wh md na nd up lo us lw) 0 0) : ∀ (m : Nat) (k b n : Int), 0 ≤ k → k + m = 13 → zin n → fdR (scO s.2.2.1 s.2.2.2.2.1 mo9) (vaO mo9) m k b n = R → Wa q_X10_found 4 0 0 10 Post 19 [(4, zI k), (3, zI mo9), (2, zI n), (1, zI b), (0, zR 0)] [] (wM v pa sn tx ty si fl wi th ap nt rr rq rb wh md na nd up lo us lw) 0 0 := by
  obtain ⟨v0, v1, v2, v3, vT, vF, vL⟩ := id hv
  have hz := hs.1
  obtain ⟨z1, z2, zT1, z4, zF1, zL1⟩ := id hz.1
  have zNm := hz.2.1
  have zg := hz.2.2.1
  have zm := hz.2.2.2.1
  have zln := hz.2.2.2.2
  have vS := Vr_sg hv zm
  have zQ1 := fun i h1 h2 => (zNm i h1 h2).2.1
  intro m
  induction m with
  | zero =>
    intro k b n h0 hm hn hR
    subst hR
    have h13 : k = 13 := by omega
    subst h13
    refine wa_iload (pc' := 21) dX10_found_19 rfl rfl ?_
    refine wa_bipush (pc' := 23) dX10_found_21 rfl rfl ?_
    refine wa_icmp_gt (tgt := 99) (pc' := 26) dX10_found_23 (by decide) rfl (by omega) (by omega) (fun c23 => ?_) (fun c23 => ?_)
    · exact kk
    · exact absurd c23 (by omega)
  | succ m ih =>
    intro k b n h0 hm hn hR
    have e1 := z_tmod_pos (a := k) (b := 2) (by omega)
    have e2 := z_tdiv_pos (a := k) (b := 2) (by omega)
    have e3 := sgk_b (k := k) (by omega)
    have hsc := scF_b s.2.2.1 (sgk k) mo9 z4
    have hsg : sigO (sgk k + 3 * mo9) mo9 = sgk k := by unfold sigO; split <;> omega
    rw [fdR] at hR
    refine wa_iload (pc' := 21) dX10_found_19 rfl rfl ?_
    refine wa_bipush (pc' := 23) dX10_found_21 rfl rfl ?_
    refine wa_icmp_gt (tgt := 99) (pc' := 26) dX10_found_23 (by decide) rfl (by omega) (by omega) (fun c23 => ?_) (fun c23 => ?_)
    · exact absurd c23 (by omega)
    · refine wa_join (J := 48) (P := fun x => x = sgk k) (fun x48 e48 => ?_) (fun K48 => ?_)
      · subst e48
        refine wa_istore (pc' := 50) (ls' := [(5, _), (4, _), (3, _), (2, _), (1, _), (0, _)]) dX10_found_48 rfl (by decide) rfl ?_
        refine wa_iload (pc' := 52) dX10_found_50 rfl rfl ?_
        refine wa_iconst (pc' := 53) dX10_found_52 rfl ?_
        refine wa_iload_n (pc' := 54) dX10_found_53 rfl rfl rfl ?_
        refine wa_imul (pc' := 55) dX10_found_54 rfl ?_
        refine wa_iadd (pc' := 56) dX10_found_55 rfl ?_
        refine wa_istore (pc' := 58) (ls' := [(6, _), (5, _), (4, _), (3, _), (2, _), (1, _), (0, _)]) dX10_found_56 rfl (by decide) rfl ?_
        refine wa_aload_n (pc' := 59) dX10_found_58 rfl rfl rfl ?_
        refine wa_iload (pc' := 61) dX10_found_59 rfl rfl ?_
        refine wa_join (J := 71) (P := fun x => x = mo9) (fun x71 e71 => ?_) (fun K71 => ?_)
        · have e71b := e71.symm
          subst e71b
          refine wa_rI2 (pc' := 74) (st := []) (k_X10_scoreOf s _ _ _ _ _ _ _ _ _ _ _ _ _ _ _ _ _ _ _ _ _ _ (sgk k + 3 * mo9) mo9 hs hv (by omega) (by omega)) ok_X10_scoreOf lm_X10_184 dX10_found_71 rfl (wM_ok _ _ _ _ _ _ _ _ _ _ _ _ _ _ _ _ _ _ _ _ _ _) rfl rfl (Nat.le_of_ble_eq_true rfl) rfl rfl rfl rfl (by decide) (Nat.le_of_ble_eq_true rfl) rfl (by decide) (by decide) rfl rfl ?_
          rw [hsg]
          refine wa_istore (pc' := 76) (ls' := [(7, _), (6, _), (5, _), (4, _), (3, _), (2, _), (1, _), (0, _)]) dX10_found_74 rfl (by decide) rfl ?_
          refine wa_iload (pc' := 78) dX10_found_76 rfl rfl ?_
          refine wa_iload_n (pc' := 79) dX10_found_78 rfl rfl rfl ?_
          refine wa_icmp_le (tgt := 93) (pc' := 82) dX10_found_79 (by decide) rfl (by omega) (by omega) (fun c79 => ?_) (fun c79 => ?_)
          · rw [if_neg (show ¬ n < scO _ _ mo9 (sgk k) from Int.not_lt.mpr c79)] at hR
            refine wa_iinc (pc' := 96) (ls' := [(4, _), (7, _), (6, _), (5, _), (3, _), (2, _), (1, _), (0, _)]) dX10_found_93 rfl rfl (by decide) rfl ?_
            refine wa_goto (pc' := 19) dX10_found_96 (by decide) ?_
            refine wa_sub [0, 4, 5, 6, 7] rfl ?_
            first | exact ih (k + 1) _ _ (by omega) (by omega) (by omega) hR | exact ih (k + 1) _ _ (by omega) (by omega) (by show zin (scF _ _ _ _); omega) hR
          · rw [if_pos (show n < scO _ _ mo9 (sgk k) from Int.lt_of_not_ge c79)] at hR
            refine wa_iload (pc' := 84) dX10_found_82 rfl rfl ?_
            refine wa_istore_n (pc' := 85) (ls' := [(2, _), (7, _), (6, _), (5, _), (4, _), (3, _), (1, _), (0, _)]) dX10_found_84 rfl rfl (by decide) rfl ?_
            refine wa_iload (pc' := 87) dX10_found_85 rfl rfl ?_
            refine wa_bipush (pc' := 89) dX10_found_87 rfl rfl ?_
            refine wa_iload_n (pc' := 90) dX10_found_89 rfl rfl rfl ?_
            refine wa_imul (pc' := 91) dX10_found_90 rfl ?_
            refine wa_iadd (pc' := 92) dX10_found_91 rfl ?_
            refine wa_istore_n (pc' := 93) (ls' := [(1, _), (2, _), (7, _), (6, _), (5, _), (4, _), (3, _), (0, _)]) dX10_found_92 rfl rfl (by decide) rfl ?_
            refine wa_iinc (pc' := 96) (ls' := [(4, _), (1, _), (2, _), (7, _), (6, _), (5, _), (3, _), (0, _)]) dX10_found_93 rfl rfl (by decide) rfl ?_
            refine wa_goto (pc' := 19) dX10_found_96 (by decide) ?_
            refine wa_sub [0, 6, 2, 1, 7] rfl ?_
            first | exact ih (k + 1) _ _ (by omega) (by omega) (by omega) hR | exact ih (k + 1) _ _ (by omega) (by omega) (by show zin (scF _ _ _ _); omega) hR
        · refine wa_iload_n (pc' := 62) dX10_found_61 rfl rfl rfl ?_
          refine wa_iconst (pc' := 63) dX10_found_62 rfl ?_
          refine wa_icmp_ne (tgt := 70) (pc' := 66) dX10_found_63 (by decide) rfl (by omega) (by omega) (fun c63 => ?_) (fun c63 => ?_)
          · refine wa_iconst (pc' := 71) dX10_found_70 rfl ?_
            exact K71 _ (by show _ = _; omega)
          · refine wa_iconst (pc' := 67) dX10_found_66 rfl ?_
            refine wa_goto (pc' := 71) dX10_found_67 (by decide) ?_
            exact K71 _ (by show _ = _; omega)
      · refine wa_iload (pc' := 28) dX10_found_26 rfl rfl ?_
        refine wa_iconst (pc' := 29) dX10_found_28 rfl ?_
        refine wa_irem (pc' := 30) dX10_found_29 rfl (by omega) (by omega) (by omega) (by omega) ?_
        refine wa_iconst (pc' := 31) dX10_found_30 rfl ?_
        refine wa_icmp_ne (tgt := 43) (pc' := 34) dX10_found_31 (by decide) rfl (by omega) (by omega) (fun c31 => ?_) (fun c31 => ?_)
        · refine wa_iload (pc' := 45) dX10_found_43 rfl rfl ?_
          refine wa_iconst (pc' := 46) dX10_found_45 rfl ?_
          refine wa_idiv (pc' := 47) dX10_found_46 rfl (by omega) (by omega) (by omega) (by omega) ?_
          refine wa_ineg (pc' := 48) dX10_found_47 rfl ?_
          exact K48 _ (by show _ = _; rw [e2, sgk]; first | (exfalso; omega) | rw [if_pos (by omega)] | rw [if_neg (by omega)])
        · refine wa_iload (pc' := 36) dX10_found_34 rfl rfl ?_
          refine wa_iconst (pc' := 37) dX10_found_36 rfl ?_
          refine wa_idiv (pc' := 38) dX10_found_37 rfl (by omega) (by omega) (by omega) (by omega) ?_
          refine wa_iconst (pc' := 39) dX10_found_38 rfl ?_
          refine wa_iadd (pc' := 40) dX10_found_39 rfl ?_
          refine wa_goto (pc' := 48) dX10_found_40 (by decide) ?_
          exact K48 _ (by show _ = _; rw [e2, sgk]; first | (exfalso; omega) | rw [if_pos (by omega)] | rw [if_neg (by omega)])

theorem fdR_s (sc val : Int → Int) (hsc : ∀ k : Int, zin (sc k)) : ∀ (m : Nat) (k b s : Int), zin s → zin (fdR sc val m k b s).2
  | 0, _, _, _, h => h
  | m + 1, k, b, s, h => by
    rw [fdR]
    split
    · exact fdR_s sc val hsc m _ _ _ (hsc _)
    · exact fdR_s sc val hsc m _ _ _ h
theorem fdR_zin {F : Int → Int} {cc : Int} (h : 0 ≤ cc ∧ cc ≤ 40) : zin (fdR (scO F cc 0) (vaO 0) 13 0 0 (scO F cc 0 0)).2 := by
  have hb : ∀ k : Int, zin (scO F cc 0 k) := fun k => by
    have := scF_b F k 0 h
    exact ⟨by unfold scO; omega, by unfold scO; omega⟩
  exact fdR_s _ _ hb _ _ _ _ (hb 0)
set_option maxRecDepth 10000 in
set_option maxHeartbeats 1000000 in
theorem k_X10_found (s : zSh) (v pa : Int → Int) (sn : Int) (tx : Int → Int) (ty si fl wi th ap nt rr rq rb wh : Int) (md na : Int → Int) (nd : Int) (up lo : Int → Int) (us lw : Int)  (hs : okW s) (hv : Vr s v)  : zMet q_X10_found 4 0 0 [zR 0] (wM v pa sn tx ty si fl wi th ap nt rr rq rb wh md na nd up lo us lw) (zD (some (zI (beF s.2.2.1 s.2.2.2.2.1))) (wM v pa sn tx ty si fl wi th ap nt rr rq rb wh md na nd up lo us lw)) := by
  refine z_introF (ls := [(0, _)]) (by decide +kernel) rfl (fun _ _ => rfl) (fun _ _ => Nat.le_of_ble_eq_true rfl) ?_
  obtain ⟨v0, v1, v2, v3, vT, vF, vL⟩ := id hv
  have hz := hs.1
  obtain ⟨z1, z2, zT1, z4, zF1, zL1⟩ := id hz.1
  have zNm := hz.2.1
  have zg := hz.2.2.1
  have zm := hz.2.2.2.1
  have zln := hz.2.2.2.2
  have vS := Vr_sg hv zm
  have zQ1 := fun i h1 h2 => (zNm i h1 h2).2.1
  have hb0 := scF_b s.2.2.1 0 0 z4
  have hz0 : sigO 0 0 = 0 := rfl
  refine wa_iconst (pc' := 1) dX10_found_0 rfl ?_
  refine wa_istore_n (pc' := 2) (ls' := [(1, _), (0, _)]) dX10_found_1 rfl rfl (by decide) rfl ?_
  refine wa_aload_n (pc' := 3) dX10_found_2 rfl rfl rfl ?_
  refine wa_iconst (pc' := 4) dX10_found_3 rfl ?_
  refine wa_iconst (pc' := 5) dX10_found_4 rfl ?_
  refine wa_rI2 (pc' := 8) (st := []) (k_X10_scoreOf s _ _ _ _ _ _ _ _ _ _ _ _ _ _ _ _ _ _ _ _ _ _ 0 0 hs hv (by omega) (by omega)) ok_X10_scoreOf lm_X10_184 dX10_found_5 rfl (wM_ok _ _ _ _ _ _ _ _ _ _ _ _ _ _ _ _ _ _ _ _ _ _) rfl rfl (Nat.le_of_ble_eq_true rfl) rfl rfl rfl rfl (by decide) (Nat.le_of_ble_eq_true rfl) rfl (by decide) (by decide) rfl rfl ?_
  rw [hz0]
  refine wa_istore_n (pc' := 9) (ls' := [(2, _), (1, _), (0, _)]) dX10_found_8 rfl rfl (by decide) rfl ?_
  refine wa_iconst (pc' := 10) dX10_found_9 rfl ?_
  refine wa_istore_n (pc' := 11) (ls' := [(3, _), (2, _), (1, _), (0, _)]) dX10_found_10 rfl rfl (by decide) rfl ?_
  refine wa_iload_n (pc' := 12) dX10_found_11 rfl rfl rfl ?_
  refine wa_iconst (pc' := 13) dX10_found_12 rfl ?_
  refine wa_icmp_ge (tgt := 105) (pc' := 16) dX10_found_13 (by decide) rfl (by omega) (by omega) (fun c13 => ?_) (fun c13 => ?_)
  · exact absurd c13 (by omega)
  · refine wa_iconst (pc' := 17) dX10_found_16 rfl ?_
    refine wa_istore (pc' := 19) (ls' := [(4, _), (3, _), (2, _), (1, _), (0, _)]) dX10_found_17 rfl (by decide) rfl ?_
    refine l_found1 s _ _ _ _ _ _ _ _ _ _ _ _ _ _ _ _ _ _ _ _ _ _ 0 (Or.inl rfl) hs hv (fdR (scO s.2.2.1 s.2.2.2.2.1 0) (vaO 0) 13 0 0 (scO s.2.2.1 s.2.2.2.2.1 0 0)) ?_ 13 0 0 _ (by omega) (by omega) (by omega) rfl
    refine wa_iinc (pc' := 102) (ls' := [(3, _), (4, _), (2, _), (1, _), (0, _)]) dX10_found_99 rfl rfl (by decide) rfl ?_
    refine wa_goto (pc' := 11) dX10_found_102 (by decide) ?_
    refine wa_iload_n (pc' := 12) dX10_found_11 rfl rfl rfl ?_
    refine wa_iconst (pc' := 13) dX10_found_12 rfl ?_
    refine wa_icmp_ge (tgt := 105) (pc' := 16) dX10_found_13 (by decide) rfl (by omega) (by omega) (fun c13 => ?_) (fun c13 => ?_)
    · exact absurd c13 (by omega)
    · refine wa_iconst (pc' := 17) dX10_found_16 rfl ?_
      refine wa_istore (pc' := 19) (ls' := [(4, _), (3, _), (2, _), (1, _), (0, _)]) dX10_found_17 rfl (by decide) rfl ?_
      refine l_found1 s _ _ _ _ _ _ _ _ _ _ _ _ _ _ _ _ _ _ _ _ _ _ 1 (Or.inr rfl) hs hv (fdR (scO s.2.2.1 s.2.2.2.2.1 1) (vaO 1) 13 0 (fdR (scO s.2.2.1 s.2.2.2.2.1 0) (vaO 0) 13 0 0 (scO s.2.2.1 s.2.2.2.2.1 0 0)).1 (fdR (scO s.2.2.1 s.2.2.2.2.1 0) (vaO 0) 13 0 0 (scO s.2.2.1 s.2.2.2.2.1 0 0)).2) ?_ 13 0 _ _ (by omega) (by omega) (fdR_zin z4) rfl
      refine wa_iinc (pc' := 102) (ls' := [(3, _), (4, _), (2, _), (1, _), (0, _)]) dX10_found_99 rfl rfl (by decide) rfl ?_
      refine wa_goto (pc' := 11) dX10_found_102 (by decide) ?_
      refine wa_iload_n (pc' := 12) dX10_found_11 rfl rfl rfl ?_
      refine wa_iconst (pc' := 13) dX10_found_12 rfl ?_
      refine wa_icmp_ge (tgt := 105) (pc' := 16) dX10_found_13 (by decide) rfl (by omega) (by omega) (fun c13 => ?_) (fun c13 => ?_)
      · refine wa_iload_n (pc' := 106) dX10_found_105 rfl rfl rfl ?_
        refine wa_iret dX10_found_106 rfl (by decide) (by decide) ?_
        exact zD_i (by rw [← fd_all]) rfl
      · exact absurd c13 (by omega)

set_option maxRecDepth 10000 in
set_option maxHeartbeats 1000000 in
theorem k_X10_findKey (s : zSh) (v pa : Int → Int) (sn : Int) (tx : Int → Int) (ty si fl wi th ap nt rr rq rb wh : Int) (md na : Int → Int) (nd : Int) (up lo : Int → Int) (us lw : Int)  (hs : okW s) (hv : Vr s v)  : zMet q_X10_findKey 5 0 0 [zR 0] (wM v pa sn tx ty si fl wi th ap nt rr rq rb wh md na nd up lo us lw) (zD (some (zI (beF s.2.2.1 s.2.2.2.2.1))) (wM v pa sn tx ty si fl wi 0 ap nt rr rq rb wh md na nd up lo us lw)) := by
  refine z_introF (ls := [(0, _)]) (by decide +kernel) rfl (fun _ _ => rfl) (fun _ _ => Nat.le_of_ble_eq_true rfl) ?_
  obtain ⟨v0, v1, v2, v3, vT, vF, vL⟩ := id hv
  have hz := hs.1
  obtain ⟨z1, z2, zT1, z4, zF1, zL1⟩ := id hz.1
  have zNm := hz.2.1
  have zg := hz.2.2.1
  have zm := hz.2.2.2.1
  have zln := hz.2.2.2.2
  have vS := Vr_sg hv zm
  have zQ1 := fun i h1 h2 => (zNm i h1 h2).2.1
  refine wa_aload_n (pc' := 1) dX10_findKey_0 rfl rfl rfl ?_
  refine wa_iconst (pc' := 2) dX10_findKey_1 rfl ?_
  refine wa_putfield (pc' := 5) (j := 8) (w' := [zO _ [_, _, _, _, _, _, _, _, _, _, _, _, _, _, _, _, _, _, _, _, _, _, _, _], _, _, _, _, _, _, _, _, _]) zc_X10 lk_X10_46 dX10_findKey_2 rfl (by decide) rfl rfl (Nat.le_of_ble_eq_true rfl) True.intro rfl ?_
  refine wa_aload_n (pc' := 6) dX10_findKey_5 rfl rfl rfl ?_
  refine wa_rI2 (pc' := 9) (st := []) (k_X10_found s _ _ _ _ _ _ _ _ _ _ _ _ _ _ _ _ _ _ _ _ _ _ hs hv ) ok_X10_found lm_X10_110 dX10_findKey_6 rfl (wM_ok _ _ _ _ _ _ _ _ _ _ _ _ _ _ _ _ _ _ _ _ _ _) rfl rfl (Nat.le_of_ble_eq_true rfl) rfl rfl rfl rfl (by decide) (Nat.le_of_ble_eq_true rfl) rfl (by decide) (by decide) rfl rfl ?_
  refine wa_iret dX10_findKey_9 rfl (by decide) (by decide) ?_
  first | exact zD_i rfl rfl | exact zD_i (by rw [if_pos (by omega)]) rfl | exact zD_i (by rw [if_neg (by omega)]) rfl

