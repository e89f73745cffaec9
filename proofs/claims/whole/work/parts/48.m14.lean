/-! the reference: read -/
theorem redP_e (md v : Int → Int) : cpyR 0 md 620 0 v = redP md v := by
  rw [cpyR_e]
  funext j
  unfold redP
  by_cases h : 0 ≤ j ∧ j < 620
  · rw [if_pos h, if_pos (by omega), Int.sub_zero]
  · rw [if_neg h, if_neg (by omega)]
theorem beF_c (F : Int → Int) (cc : Int) : (-6 ≤ beF F cc ∧ beF F cc ≤ 6) ∨ (97 ≤ beF F cc ∧ beF F cc ≤ 109) := by
  have h1 := bsF_b F cc 0
  have h2 := bsF_b F cc 1
  unfold beF tonO
  (repeat' split) <;> omega
theorem Vn_red {s : zSh} {md : Int → Int} (h : Vn s md) (hw : okW (sK s 0 0)) (v : Int → Int) : Vr (sK s 0 0) (redP md v) := by
  obtain ⟨⟨h0, h1, h2, h3, hT, hF, hL⟩, hE⟩ := h
  have a1 : 1 ≤ s.2.2.2.1 ∧ s.2.2.2.1 ≤ 200 + 1 := hw.1.1.1
  have a2 : 0 ≤ s.2.2.2.2.1 ∧ s.2.2.2.2.1 ≤ 40 := hw.1.1.2.2.2.1
  have a3 : 0 ≤ s.2.1 s.2.2.2.1 ∧ s.2.1 s.2.2.2.1 ≤ 200 := hw.1.1.2.1
  have e : ∀ j : Int, 0 ≤ j → j < 620 → redP md v j = md j := fun j j0 j1 => if_pos ⟨j0, j1⟩
  refine ⟨?_, ?_, ?_, ?_, ?_, ?_, ?_⟩
  · rw [e _ (by omega) (by omega)]; exact h0
  · rw [e _ (by omega) (by omega)]; exact h1
  · rw [e _ (by omega) (by omega)]; exact h2
  · rw [e _ (by omega) (by omega)]; exact h3
  · intro k k0 k1
    have k1 : k ≤ s.2.2.2.1 := k1
    rw [e _ (by omega) (by omega)]
    by_cases hk : k = s.2.2.2.1
    · rw [hk]; exact hE
    · exact hT k k0 (by omega)
  · intro t t0 t1
    have t1 : t < 5 * s.2.2.2.2.1 := t1
    rw [e _ (by omega) (by omega)]; exact hF t t0 t1
  · intro j j0 j1
    have j1 : j < s.2.1 s.2.2.2.1 := j1
    rw [e _ (by omega) (by omega)]; exact hL j j0 j1
theorem okW_tk {s : zSh} (hw : okW (sK s 0 0)) : okW (tkS (beF s.2.2.1 s.2.2.2.2.1) s) := by
  have h := beF_c s.2.2.1 s.2.2.2.2.1
  by_cases h6 : 6 < beF s.2.2.1 s.2.2.2.2.1
  · rw [tkS_p h6]
    exact okW_key hw (by unfold sigO; rw [if_neg (by decide)]; omega) (Or.inr rfl)
  · rw [tkS_n h6]
    exact okW_key hw (by unfold sigO; rw [if_pos rfl]; omega) (Or.inl rfl)
theorem Vr_tk {s : zSh} {v : Int → Int} (h : Vr (sK s 0 0) v) (hz : s.2.2.2.1 ≤ 201) (pl mn : Int) (hp : pl = if 50 ≤ beF s.2.2.1 s.2.2.2.2.1 then beF s.2.2.1 s.2.2.2.2.1 - 100 else beF s.2.2.1 s.2.2.2.2.1) (hm : mn = if 50 ≤ beF s.2.2.1 s.2.2.2.2.1 then 1 else 0) : Vr (tkS (beF s.2.2.1 s.2.2.2.2.1) s) (zup (zup v 2 pl) 3 mn) := by
  have hb := beF_c s.2.2.1 s.2.2.2.2.1
  by_cases h6 : 6 < beF s.2.2.1 s.2.2.2.2.1
  · rw [if_pos (by omega)] at hp hm
    rw [tkS_p h6, hm]
    exact Vr_key (s := sK s 0 0) h hz (sigO (beF s.2.2.1 s.2.2.2.2.1 - 100) 1) 1 pl (by rw [hp]; unfold tonO sigO; rw [if_neg (by decide), if_neg (by decide)]; omega)
  · rw [if_neg (by omega)] at hp hm
    rw [tkS_n h6, hm]
    exact Vr_key (s := sK s 0 0) h hz (sigO (beF s.2.2.1 s.2.2.2.2.1) 0) 0 pl (by rw [hp]; unfold tonO sigO; rw [if_pos rfl, if_pos rfl])
set_option maxRecDepth 10000 in
set_option maxHeartbeats 1000000 in
theorem l_redc (pa : Int → Int) (sn : Int) (tx : Int → Int) (ty si fl wi th ap nt rr rq rb wh : Int) (md na : Int → Int) (nd : Int) (up lo : Int → Int) (us lw : Int) {Post : zP → List zE → Prop} (R : Int → Int) (kk : Wa q_X10_read 6 0 0 10 Post 50 [(0, zR 0)] [] (wM R pa sn tx ty si fl wi th ap nt rr rq rb wh md na nd up lo us lw) 0 0) : ∀ (m : Nat) (k : Int) (f : Int → Int), 0 ≤ k → k + m = 620 → cpyR 0 md m k f = R → Wa q_X10_read 6 0 0 10 Post 25 [(1, zI k), (0, zR 0)] [] (wM f pa sn tx ty si fl wi th ap nt rr rq rb wh md na nd up lo us lw) 0 0 := by
  intro m
  induction m with
  | zero =>
    intro k f h0 hm hR
    subst hR
    refine wa_iload_n (pc' := 26) dX10_read_25 rfl rfl rfl ?_
    refine wa_sipush (pc' := 29) dX10_read_26 rfl rfl ?_
    refine wa_icmp_ge (tgt := 50) (pc' := 32) dX10_read_29 (by decide) rfl (by omega) (by omega) (fun c29 => ?_) (fun c29 => ?_)
    · refine wa_sub [1] rfl ?_
      exact kk
    · exact absurd c29 (by omega)
  | succ m ih =>
    intro k f h0 hm hR
    rw [cpyR, Int.zero_add] at hR
    refine wa_iload_n (pc' := 26) dX10_read_25 rfl rfl rfl ?_
    refine wa_sipush (pc' := 29) dX10_read_26 rfl rfl ?_
    refine wa_icmp_ge (tgt := 50) (pc' := 32) dX10_read_29 (by decide) rfl (by omega) (by omega) (fun c29 => ?_) (fun c29 => ?_)
    · exact absurd c29 (by omega)
    · refine wa_aload_n (pc' := 33) dX10_read_32 rfl rfl rfl ?_
      refine wa_getfield (pc' := 36) (j := 0) zc_X10 lk_X10_7 dX10_read_33 rfl (by decide) rfl rfl ?_
      refine wa_iload_n (pc' := 37) dX10_read_36 rfl rfl rfl ?_
      refine wa_aload_n (pc' := 38) dX10_read_37 rfl rfl rfl ?_
      refine wa_getfield (pc' := 41) (j := 17) zc_X10 lk_X10_34 dX10_read_38 rfl (by decide) rfl rfl ?_
      refine wa_iload_n (pc' := 42) dX10_read_41 rfl rfl rfl ?_
      refine wa_iaload (pc' := 43) dX10_read_42 rfl rfl (by omega) (by omega) (by decide) ?_
      refine wa_iastore (pc' := 44) (w' := [_, zA _ _ _, _, _, _, _, _, _, _, _]) dX10_read_43 rfl rfl (by omega) (by omega) (by decide) rfl ?_
      refine wa_iinc (pc' := 47) (ls' := [(1, _), (0, _)]) dX10_read_44 rfl rfl (by decide) rfl ?_
      refine wa_goto (pc' := 25) dX10_read_47 (by decide) ?_
      exact ih (k + 1) _ (by omega) (by omega) hR

set_option maxRecDepth 10000 in
set_option maxHeartbeats 1000000 in
theorem k_X10_read0 (t : zRw) (v pa : Int → Int) (sn : Int) (tx : Int → Int) (ty si fl wi th ap nt rr rq rb wh : Int) (md na : Int → Int) (nd : Int) (up lo : Int → Int) (us lw : Int) (ht : okT t) (hx : Tr t tx ty) (D : zSh) (k : zKd) (hD : okD 200 D) (hq : 0 ≤ k.2.2.1 ∧ k.2.2.1 < 10) (hc : ¬ (rdS (gT t) t.1 (t.1.toNat + 1) 0 (shClr D) k).1 = -1) : zMet q_X10_read 6 0 0 [zR 0] (wM v pa sn tx ty si fl wi th ap nt rr rq rb wh md na nd up lo us lw) (fun o w' => ∃ x : zX7, True ∧ o = .inl (some (zI (-1 - (rdS (gT t) t.1 (t.1.toNat + 1) 0 (shClr D) k).1))) ∧ w' = (wM v pa sn tx ty si fl wi 0 x.2.1 x.2.2.1 x.2.2.2.1 x.2.2.2.2.1 x.2.2.2.2.2.1 x.2.2.2.2.2.2 x.1 na nd up lo us lw)) := by
  refine z_introF (ls := [(0, _)]) (by decide +kernel) rfl (fun _ _ => rfl) (fun _ _ => Nat.le_of_ble_eq_true rfl) ?_
  refine wa_aload_n (pc' := 1) dX10_read_0 rfl rfl rfl ?_
  refine wa_iconst (pc' := 2) dX10_read_1 rfl ?_
  refine wa_putfield (pc' := 5) (j := 8) (w' := [zO _ [_, _, _, _, _, _, _, _, _, _, _, _, _, _, _, _, _, _, _, _, _, _, _, _], _, _, _, _, _, _, _, _, _]) zc_X10 lk_X10_46 dX10_read_2 rfl (by decide) rfl rfl (Nat.le_of_ble_eq_true rfl) True.intro rfl ?_
  refine wa_aload_n (pc' := 6) dX10_read_5 rfl rfl rfl ?_
  refine wa_gI (pc' := 9) (st := []) (k_X10_readsSheet t v pa sn tx ty si fl wi 0 na nd up lo us lw md ap nt rr rq rb wh ht hx D k hD hq) ok_X10_readsSheet lm_X10_104 dX10_read_6 rfl (wM_ok _ _ _ _ _ _ _ _ _ _ _ _ _ _ _ _ _ _ _ _ _ _ ) (fun _ => rfl) (fun _ => wM_ok _ _ _ _ _ _ _ _ _ _ _ _ _ _ _ _ _ _ _ _ _ _ ) rfl rfl (Nat.le_of_ble_eq_true rfl) rfl rfl rfl rfl (by decide) (Nat.le_of_ble_eq_true rfl) rfl (by decide) (by decide) rfl rfl (fun x9 hx9 => ?_)
  show Wa _ _ _ _ _ _ _ _ [_] _ _ _
  refine wa_if_ne (tgt := 19) (pc' := 12) dX10_read_9 (by decide) rfl (by split <;> omega) (fun c9 => ?_) (fun c9 => ?_)
  · exact absurd (ite1 c9) hc
  · refine wa_iconst (pc' := 13) dX10_read_12 rfl ?_
    refine wa_aload_n (pc' := 14) dX10_read_13 rfl rfl rfl ?_
    refine wa_getfield (pc' := 17) (j := 11) zc_X10 lk_X10_59 dX10_read_14 rfl (by decide) rfl rfl ?_
    refine wa_isub (pc' := 18) dX10_read_17 rfl ?_
    refine wa_iret dX10_read_18 rfl (by decide) (by decide) ?_
    exact ⟨x9, trivial, by rw [hx9.1 hc], rfl⟩

set_option maxRecDepth 10000 in
set_option maxHeartbeats 1000000 in
theorem k_X10_read1 (t : zRw) (v pa : Int → Int) (sn : Int) (tx : Int → Int) (ty si fl wi th ap nt rr rq rb wh : Int) (md na : Int → Int) (nd : Int) (up lo : Int → Int) (us lw : Int) (ht : okT t) (hx : Tr t tx ty) (D : zSh) (k : zKd) (hD : okD 200 D) (hq : 0 ≤ k.2.2.1 ∧ k.2.2.1 < 10) (hsn : 0 ≤ sn ∧ sn ≤ 8) (hc : (rdS (gT t) t.1 (t.1.toNat + 1) 0 (shClr D) k).1 = -1) (hw : okW (sK (rdS (gT t) t.1 (t.1.toNat + 1) 0 (shClr D) k).2.1 0 0)) : zMet q_X10_read 6 0 0 [zR 0] (wM v pa sn tx ty si fl wi th ap nt rr rq rb wh md na nd up lo us lw) (fun o w' => ∃ x : (Int → Int) × zX7, (Vr (tkS (beF (rdS (gT t) t.1 (t.1.toNat + 1) 0 (shClr D) k).2.1.2.2.1 (rdS (gT t) t.1 (t.1.toNat + 1) 0 (shClr D) k).2.1.2.2.2.2.1) (rdS (gT t) t.1 (t.1.toNat + 1) 0 (shClr D) k).2.1) x.1 ∧ okW (tkS (beF (rdS (gT t) t.1 (t.1.toNat + 1) 0 (shClr D) k).2.1.2.2.1 (rdS (gT t) t.1 (t.1.toNat + 1) 0 (shClr D) k).2.1.2.2.2.2.1) (rdS (gT t) t.1 (t.1.toNat + 1) 0 (shClr D) k).2.1)) ∧ o = .inl (some (zI ((rdS (gT t) t.1 (t.1.toNat + 1) 0 (shClr D) k).2.1.2.2.2.2.1))) ∧ w' = (wM x.1 (actP v sn pa) (if sn = 8 then 8 else sn + 1) tx 0 si fl wi 0 x.2.2.1 x.2.2.2.1 x.2.2.2.2.1 x.2.2.2.2.2.1 x.2.2.2.2.2.2.1 x.2.2.2.2.2.2.2 x.2.1 na nd up lo us lw)) := by
  refine z_introF (ls := [(0, _)]) (by decide +kernel) rfl (fun _ _ => rfl) (fun _ _ => Nat.le_of_ble_eq_true rfl) ?_
  refine wa_aload_n (pc' := 1) dX10_read_0 rfl rfl rfl ?_
  refine wa_iconst (pc' := 2) dX10_read_1 rfl ?_
  refine wa_putfield (pc' := 5) (j := 8) (w' := [zO _ [_, _, _, _, _, _, _, _, _, _, _, _, _, _, _, _, _, _, _, _, _, _, _, _], _, _, _, _, _, _, _, _, _]) zc_X10 lk_X10_46 dX10_read_2 rfl (by decide) rfl rfl (Nat.le_of_ble_eq_true rfl) True.intro rfl ?_
  refine wa_aload_n (pc' := 6) dX10_read_5 rfl rfl rfl ?_
  refine wa_gI (pc' := 9) (st := []) (k_X10_readsSheet t v pa sn tx ty si fl wi 0 na nd up lo us lw md ap nt rr rq rb wh ht hx D k hD hq) ok_X10_readsSheet lm_X10_104 dX10_read_6 rfl (wM_ok _ _ _ _ _ _ _ _ _ _ _ _ _ _ _ _ _ _ _ _ _ _ ) (fun _ => rfl) (fun _ => wM_ok _ _ _ _ _ _ _ _ _ _ _ _ _ _ _ _ _ _ _ _ _ _ ) rfl rfl (Nat.le_of_ble_eq_true rfl) rfl rfl rfl rfl (by decide) (Nat.le_of_ble_eq_true rfl) rfl (by decide) (by decide) rfl rfl (fun x9 hx9 => ?_)
  show Wa _ _ _ _ _ _ _ _ [_] _ _ _
  have hv2 := Vn_red (hx9.2 hc) hw v
  have hlc : 1 ≤ (rdS (gT t) t.1 (t.1.toNat + 1) 0 (shClr D) k).2.1.2.2.2.1 ∧ (rdS (gT t) t.1 (t.1.toNat + 1) 0 (shClr D) k).2.1.2.2.2.1 ≤ 200 + 1 := hw.1.1.1
  refine wa_if_ne (tgt := 19) (pc' := 12) dX10_read_9 (by decide) rfl (by split <;> omega) (fun c9 => ?_) (fun c9 => ?_)
  · refine wa_aload_n (pc' := 20) dX10_read_19 rfl rfl rfl ?_
    refine wa_iD2 (pc' := 23) (st := []) (k_X10_acts _ _ _ _ _ _ _ _ _ _ _ _ _ _ _ _ _ _ _ _ _ _ (by omega) ) ok_X10_acts lm_X10_107 dX10_read_20 rfl (wM_ok _ _ _ _ _ _ _ _ _ _ _ _ _ _ _ _ _ _ _ _ _ _) (Eq.refl 10) (wM_ok _ _ _ _ _ _ _ _ _ _ _ _ _ _ _ _ _ _ _ _ _ _) rfl rfl (Nat.le_of_ble_eq_true rfl) rfl rfl rfl rfl (by decide) (Nat.le_of_ble_eq_true rfl) rfl (by decide) (by decide) rfl rfl ?_
    show Wa _ _ _ _ _ _ _ _ [] _ _ _
    refine wa_iconst (pc' := 24) dX10_read_23 rfl ?_
    refine wa_istore_n (pc' := 25) (ls' := [(1, _), (0, _)]) dX10_read_24 rfl rfl (by decide) rfl ?_
    refine l_redc _ _ _ _ _ _ _ _ _ _ _ _ _ _ _ _ _ _ _ _ _ (redP x9.1 v) ?_ 620 0 v (by omega) (by omega) (redP_e _ _)
    refine wa_aload_n (pc' := 51) dX10_read_50 rfl rfl rfl ?_
    refine wa_iconst (pc' := 52) dX10_read_51 rfl ?_
    refine wa_putfield (pc' := 55) (j := 4) (w' := [zO _ [_, _, _, _, _, _, _, _, _, _, _, _, _, _, _, _, _, _, _, _, _, _, _, _], _, _, _, _, _, _, _, _, _]) zc_X10 lk_X10_56 dX10_read_52 rfl (by decide) rfl rfl (Nat.le_of_ble_eq_true rfl) True.intro rfl ?_
    refine wa_aload_n (pc' := 56) dX10_read_55 rfl rfl rfl ?_
    refine wa_rI2 (pc' := 59) (st := []) (k_X10_found (sK (rdS (gT t) t.1 (t.1.toNat + 1) 0 (shClr D) k).2.1 0 0) _ _ _ _ _ _ _ _ _ _ _ _ _ _ _ _ _ _ _ _ _ _ hw hv2) ok_X10_found lm_X10_110 dX10_read_56 rfl (wM_ok _ _ _ _ _ _ _ _ _ _ _ _ _ _ _ _ _ _ _ _ _ _) rfl rfl (Nat.le_of_ble_eq_true rfl) rfl rfl rfl rfl (by decide) (Nat.le_of_ble_eq_true rfl) rfl (by decide) (by decide) rfl rfl ?_
    show Wa _ _ _ _ _ _ _ _ [zI (beF (rdS (gT t) t.1 (t.1.toNat + 1) 0 (shClr D) k).2.1.2.2.1 (rdS (gT t) t.1 (t.1.toNat + 1) 0 (shClr D) k).2.1.2.2.2.2.1)] _ _ _
    have hbe := beF_c (rdS (gT t) t.1 (t.1.toNat + 1) 0 (shClr D) k).2.1.2.2.1 (rdS (gT t) t.1 (t.1.toNat + 1) 0 (shClr D) k).2.1.2.2.2.2.1
    refine wa_istore_n (pc' := 60) (ls' := [(1, _), (0, _)]) dX10_read_59 rfl rfl (by decide) rfl ?_
    refine wa_aload_n (pc' := 61) dX10_read_60 rfl rfl rfl ?_
    refine wa_getfield (pc' := 64) (j := 0) zc_X10 lk_X10_7 dX10_read_61 rfl (by decide) rfl rfl ?_
    refine wa_iconst (pc' := 65) dX10_read_64 rfl ?_
    refine wa_join (J := 79) (P := fun x => x = if 50 ≤ (beF (rdS (gT t) t.1 (t.1.toNat + 1) 0 (shClr D) k).2.1.2.2.1 (rdS (gT t) t.1 (t.1.toNat + 1) 0 (shClr D) k).2.1.2.2.2.2.1) then (beF (rdS (gT t) t.1 (t.1.toNat + 1) 0 (shClr D) k).2.1.2.2.1 (rdS (gT t) t.1 (t.1.toNat + 1) 0 (shClr D) k).2.1.2.2.2.2.1) - 100 else (beF (rdS (gT t) t.1 (t.1.toNat + 1) 0 (shClr D) k).2.1.2.2.1 (rdS (gT t) t.1 (t.1.toNat + 1) 0 (shClr D) k).2.1.2.2.2.2.1)) (fun x79 e79 => ?_) (fun K79 => ?_)
    · refine wa_iastore (pc' := 80) (w' := [_, zA _ _ _, _, _, _, _, _, _, _, _]) dX10_read_79 rfl rfl (by omega) (by omega) (by decide) rfl ?_
      refine wa_aload_n (pc' := 81) dX10_read_80 rfl rfl rfl ?_
      refine wa_getfield (pc' := 84) (j := 0) zc_X10 lk_X10_7 dX10_read_81 rfl (by decide) rfl rfl ?_
      refine wa_iconst (pc' := 85) dX10_read_84 rfl ?_
      refine wa_join (J := 96) (P := fun x => x = if 50 ≤ (beF (rdS (gT t) t.1 (t.1.toNat + 1) 0 (shClr D) k).2.1.2.2.1 (rdS (gT t) t.1 (t.1.toNat + 1) 0 (shClr D) k).2.1.2.2.2.2.1) then 1 else 0) (fun x96 e96 => ?_) (fun K96 => ?_)
      · refine wa_iastore (pc' := 97) (w' := [_, zA _ _ _, _, _, _, _, _, _, _, _]) dX10_read_96 rfl rfl (by omega) (by omega) (by decide) rfl ?_
        refine wa_aload_n (pc' := 98) dX10_read_97 rfl rfl rfl ?_
        refine wa_getfield (pc' := 101) (j := 0) zc_X10 lk_X10_7 dX10_read_98 rfl (by decide) rfl rfl ?_
        refine wa_iconst (pc' := 102) dX10_read_101 rfl ?_
        refine wa_iaload (pc' := 103) dX10_read_102 rfl rfl (by omega) (by omega) (by decide) ?_
        refine wa_iret dX10_read_103 rfl (by decide) (by decide) ?_
        refine ⟨(_, x9), ⟨Vr_tk hv2 (by omega) x79 x96 e79 e96, okW_tk hw⟩, ?_, rfl⟩
        rw [zup9_ne (by omega), zup9_ne (by omega), hv2.2.1]
      · refine wa_iload_n (pc' := 86) dX10_read_85 rfl rfl rfl ?_
        refine wa_bipush (pc' := 88) dX10_read_86 rfl rfl ?_
        refine wa_icmp_lt (tgt := 95) (pc' := 91) dX10_read_88 (by decide) rfl (by omega) (by omega) (fun c88 => ?_) (fun c88 => ?_)
        · refine wa_iconst (pc' := 96) dX10_read_95 rfl ?_
          exact K96 _ (by show _ = _; first | (exfalso; omega) | rw [if_pos (by omega)] | rw [if_neg (by omega)])
        · refine wa_iconst (pc' := 92) dX10_read_91 rfl ?_
          refine wa_goto (pc' := 96) dX10_read_92 (by decide) ?_
          exact K96 _ (by show _ = _; first | (exfalso; omega) | rw [if_pos (by omega)] | rw [if_neg (by omega)])
    · refine wa_iload_n (pc' := 66) dX10_read_65 rfl rfl rfl ?_
      refine wa_bipush (pc' := 68) dX10_read_66 rfl rfl ?_
      refine wa_icmp_lt (tgt := 78) (pc' := 71) dX10_read_68 (by decide) rfl (by omega) (by omega) (fun c68 => ?_) (fun c68 => ?_)
      · refine wa_iload_n (pc' := 79) dX10_read_78 rfl rfl rfl ?_
        exact K79 _ (by show _ = _; first | (exfalso; omega) | rw [if_pos (by omega)] | rw [if_neg (by omega)])
      · refine wa_iload_n (pc' := 72) dX10_read_71 rfl rfl rfl ?_
        refine wa_bipush (pc' := 74) dX10_read_72 rfl rfl ?_
        refine wa_isub (pc' := 75) dX10_read_74 rfl ?_
        refine wa_goto (pc' := 79) dX10_read_75 (by decide) ?_
        exact K79 _ (by show _ = _; first | (exfalso; omega) | rw [if_pos (by omega)] | rw [if_neg (by omega)])
  · exact absurd hc (ite0 c9)

