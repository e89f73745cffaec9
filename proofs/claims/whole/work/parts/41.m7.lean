/-! the reference: spelling and capo; calls that tell less than all -/
section ZGI
variable {Y Y1 : zY} {d d1 mc ms n0 : Nat} {Post : zP → List zE → Prop} {pc pc' : Nat} {ls : List (Nat × zV)} {st stk as : List zV} {w : List zE} {nc ns : Nat}
theorem wa_gI {X : Type} {wl : X → List zE} {P : X → Prop} {q ci : Nat} {fs : List zV} {vc : vw_C} {idx n : Nat} {v : Option zV} {st' : List zV} (M : zMet Y1 d1 0 0 (zR q :: as) w (fun o w' => ∃ x : X, P x ∧ o = .inl v ∧ w' = wl x)) (hO : zOkV Y1 n) (hlink : Cond.methodLink Y.1.cls idx Y1.1 ∈ lw_tbl) (hd : decode Y.2.1 pc = .ok (.invokevirtual idx, 3)) (hp : pc + 3 = pc') (hok : zokw w.length w) (hl2 : ∀ x, (wl x).length = w.length) (hok2 : ∀ x, zokw w.length (wl x)) (hstk : as.reverse ++ zR q :: st = stk) (has : as.all (zokv w.length) = true) (hq9 : q < w.length) (hna : as.length = n) (hq : w[q]? = some (zO ci fs)) (hvc : vwCl[ci]? = some vc) (hcls : vc.1 = Y1.1.cls) (hd1 : d1 + 1 ≤ d) (hcat : (st.map zcat).sum ≤ 8) (hh : Y.2.2.2.2 = []) (hmc : nc ≤ mc) (hms : ns ≤ ms) (hvv : v.toList.all (zokv w.length) = true) (hv : v.toList ++ st = st')
    (k : ∀ x, P x → Wa Y d mc ms n0 Post pc' ls st' (wl x) nc ns) : Wa Y d mc ms n0 Post pc ls stk w nc ns := by
  refine wa_callV M hO hlink hd hp (List.range w.length) (hsub_id hok) List.nodup_range ?_ hna hq hvc hcls hd1 hcat hh hmc hms ?_ ?_ ?_
  · rw [zrvs_id has, List.getD_eq_getElem?_getD, List.getElem?_range hq9]
    exact hstk
  · rintro o w' ⟨x, hx, h1, h2⟩
    rw [h2]
    exact hl2 x
  · rintro E w' ⟨x, hx, h1, h2⟩
    cases h1
  · rintro v9 w' ⟨x, hx, h1, h2⟩
    cases h1
    rw [h2, zins_idw (hl2 x) (hok2 x)]
    have e : (v.map (zrv (List.range w.length))).toList ++ st = st' := by
      rw [← hv]
      cases v with
      | none => rfl
      | some y =>
        show zrv (List.range w.length) y :: st = y :: st
        rw [zrv_id (List.all_eq_true.mp hvv y (List.mem_singleton.mpr rfl))]
    rw [e]
    exact k x hx
end ZGI
theorem plf_s {l pt : Int} (h : ¬ pcl l = pt) (hp : 0 ≤ pt ∧ pt < 12) : plf (l + 1) pt = plf l pt := by unfold plf pcl at *; omega
theorem plf_0 {l pt : Int} (h : pcl l = pt) (hp : 0 ≤ pt ∧ pt < 12) : plf l pt = l := by unfold plf pcl at *; omega
theorem spl_1 {pt sg si : Int} (hs : -6 ≤ sg ∧ sg ≤ 6) (h1 : si = 1) (h2 : ¬ (-8 ≤ plf (sg - 3) pt ∧ plf (sg - 3) pt ≤ 12)) : spl pt sg si = plf (-1) pt := by
  have h := plf_b (sg - 3) pt
  have h3 : zabs (acc (plf (sg - 3) pt)) = 2 := by unfold zabs acc; split <;> omega
  unfold spl
  rw [if_pos ⟨h1, h3⟩]
theorem spl_0 {pt sg si : Int} (hs : -6 ≤ sg ∧ sg ≤ 6) (h2 : ¬ si = 1 ∨ (-8 ≤ plf (sg - 3) pt ∧ plf (sg - 3) pt ≤ 12)) : spl pt sg si = plf (sg - 3) pt := by
  have h := plf_b (sg - 3) pt
  unfold spl
  rw [if_neg]
  intro h4
  rcases h2 with h2 | h2
  · exact h2 h4.1
  · have h5 := h4.2
    unfold zabs acc at h5
    split at h5 <;> omega
theorem plf_0e {l pt : Int} (h : l = plf l pt) (hp : 0 ≤ pt ∧ pt < 12) : pcl l = pt := by unfold plf pcl at *; omega
set_option maxRecDepth 10000 in
set_option maxHeartbeats 1000000 in
theorem l_spelled1 (v pa : Int → Int) (sn : Int) (tx : Int → Int) (ty si fl wi th ap nt rr rq rb wh : Int) (md na : Int → Int) (nd : Int) (up lo : Int → Int) (us lw : Int) (pt lo9 : Int) (hp : 0 ≤ pt ∧ pt < 12) {Post : zP → List zE → Prop} (kk : Wa q_X10_spelled 2 0 0 10 Post 21 [(2, zI (plf lo9 pt)), (0, zR 0), (1, zI pt)] [] (wM v pa sn tx ty si fl wi th ap nt rr rq rb wh md na nd up lo us lw) 0 0) : ∀ (m : Nat) (l : Int), -100 ≤ l → l + m = plf lo9 pt → l + m ≤ 100 → plf l pt = plf lo9 pt → Wa q_X10_spelled 2 0 0 10 Post 7 [(2, zI l), (0, zR 0), (1, zI pt)] [] (wM v pa sn tx ty si fl wi th ap nt rr rq rb wh md na nd up lo us lw) 0 0 := by
  intro m
  induction m with
  | zero =>
    intro l h0 hm h1 hl
    have hpb := pcl_b l
    have e9 : l = plf lo9 pt := by omega
    refine wa_iload_n (pc' := 8) dX10_spelled_7 rfl rfl rfl ?_
    refine wa_dS (pc' := 11) (w' := [_, _, _, _, _, _, _, _, _, _]) (k_X10_pitch l (by omega)) ok_X10_pitch lm_X10_161 dX10_spelled_8 rfl [] rfl (by decide) rfl rfl (by decide) (Nat.le_of_ble_eq_true rfl) rfl (by decide) (by decide) rfl rfl rfl ?_
    refine wa_iload_n (pc' := 12) dX10_spelled_11 rfl rfl rfl ?_
    refine wa_icmp_eq (tgt := 21) (pc' := 15) dX10_spelled_12 (by decide) rfl (by omega) (by omega) (fun c12 => ?_) (fun c12 => ?_)
    · rw [← e9] at kk
      exact kk
    · exact absurd (plf_0e (e9.trans hl.symm) hp) c12
  | succ m ih =>
    intro l h0 hm h1 hl
    have hpb := pcl_b l
    refine wa_iload_n (pc' := 8) dX10_spelled_7 rfl rfl rfl ?_
    refine wa_dS (pc' := 11) (w' := [_, _, _, _, _, _, _, _, _, _]) (k_X10_pitch l (by omega)) ok_X10_pitch lm_X10_161 dX10_spelled_8 rfl [] rfl (by decide) rfl rfl (by decide) (Nat.le_of_ble_eq_true rfl) rfl (by decide) (by decide) rfl rfl rfl ?_
    refine wa_iload_n (pc' := 12) dX10_spelled_11 rfl rfl rfl ?_
    refine wa_icmp_eq (tgt := 21) (pc' := 15) dX10_spelled_12 (by decide) rfl (by omega) (by omega) (fun c12 => ?_) (fun c12 => ?_)
    · exact absurd (plf_0 c12 hp) (by omega)
    · refine wa_iinc (pc' := 18) (ls' := [(2, _), (0, _), (1, _)]) dX10_spelled_15 rfl rfl (by decide) rfl ?_
      refine wa_goto (pc' := 7) dX10_spelled_18 (by decide) ?_
      exact ih (l + 1) (by omega) (by omega) (by omega) ((plf_s c12 hp).trans hl)

set_option maxRecDepth 10000 in
set_option maxHeartbeats 1000000 in
theorem l_spelled2 (v pa : Int → Int) (sn : Int) (tx : Int → Int) (ty si fl wi th ap nt rr rq rb wh : Int) (md na : Int → Int) (nd : Int) (up lo : Int → Int) (us lw : Int) (pt lo9 : Int) (hp : 0 ≤ pt ∧ pt < 12) {Post : zP → List zE → Prop} (kk : Wa q_X10_spelled 2 0 0 10 Post 55 [(2, zI (plf lo9 pt)), (0, zR 0), (1, zI pt)] [] (wM v pa sn tx ty si fl wi th ap nt rr rq rb wh md na nd up lo us lw) 0 0) : ∀ (m : Nat) (l : Int), -100 ≤ l → l + m = plf lo9 pt → l + m ≤ 100 → plf l pt = plf lo9 pt → Wa q_X10_spelled 2 0 0 10 Post 41 [(2, zI l), (0, zR 0), (1, zI pt)] [] (wM v pa sn tx ty si fl wi th ap nt rr rq rb wh md na nd up lo us lw) 0 0 := by
  intro m
  induction m with
  | zero =>
    intro l h0 hm h1 hl
    have hpb := pcl_b l
    have e9 : l = plf lo9 pt := by omega
    refine wa_iload_n (pc' := 42) dX10_spelled_41 rfl rfl rfl ?_
    refine wa_dS (pc' := 45) (w' := [_, _, _, _, _, _, _, _, _, _]) (k_X10_pitch l (by omega)) ok_X10_pitch lm_X10_161 dX10_spelled_42 rfl [] rfl (by decide) rfl rfl (by decide) (Nat.le_of_ble_eq_true rfl) rfl (by decide) (by decide) rfl rfl rfl ?_
    refine wa_iload_n (pc' := 46) dX10_spelled_45 rfl rfl rfl ?_
    refine wa_icmp_eq (tgt := 55) (pc' := 49) dX10_spelled_46 (by decide) rfl (by omega) (by omega) (fun c46 => ?_) (fun c46 => ?_)
    · rw [← e9] at kk
      exact kk
    · exact absurd (plf_0e (e9.trans hl.symm) hp) c46
  | succ m ih =>
    intro l h0 hm h1 hl
    have hpb := pcl_b l
    refine wa_iload_n (pc' := 42) dX10_spelled_41 rfl rfl rfl ?_
    refine wa_dS (pc' := 45) (w' := [_, _, _, _, _, _, _, _, _, _]) (k_X10_pitch l (by omega)) ok_X10_pitch lm_X10_161 dX10_spelled_42 rfl [] rfl (by decide) rfl rfl (by decide) (Nat.le_of_ble_eq_true rfl) rfl (by decide) (by decide) rfl rfl rfl ?_
    refine wa_iload_n (pc' := 46) dX10_spelled_45 rfl rfl rfl ?_
    refine wa_icmp_eq (tgt := 55) (pc' := 49) dX10_spelled_46 (by decide) rfl (by omega) (by omega) (fun c46 => ?_) (fun c46 => ?_)
    · exact absurd (plf_0 c46 hp) (by omega)
    · refine wa_iinc (pc' := 52) (ls' := [(2, _), (0, _), (1, _)]) dX10_spelled_49 rfl rfl (by decide) rfl ?_
      refine wa_goto (pc' := 41) dX10_spelled_52 (by decide) ?_
      exact ih (l + 1) (by omega) (by omega) (by omega) ((plf_s c46 hp).trans hl)

set_option maxRecDepth 10000 in
set_option maxHeartbeats 1000000 in
theorem k_X10_spelled (s : zSh) (v pa : Int → Int) (sn : Int) (tx : Int → Int) (ty si fl wi th ap nt rr rq rb wh : Int) (md na : Int → Int) (nd : Int) (up lo : Int → Int) (us lw : Int) (pt : Int) (hs : okW s) (hv : Vr s v) (hp : 0 ≤ pt ∧ pt < 12) (hsi : si = 0 ∨ si = 1) : zMet q_X10_spelled 2 0 0 [zR 0, zI pt] (wM v pa sn tx ty si fl wi th ap nt rr rq rb wh md na nd up lo us lw) (zD (some (zI (spl pt s.2.2.2.2.2.1 si))) (wM v pa sn tx ty si fl wi th ap nt rr rq rb wh md na nd up lo us lw)) := by
  refine z_introF (ls := [(0, _), (1, _)]) (by decide +kernel) rfl (fun _ _ => rfl) (fun _ _ => Nat.le_of_ble_eq_true rfl) ?_
  obtain ⟨v0, v1, v2, v3, vT, vF, vL⟩ := id hv
  have hz := hs.1
  obtain ⟨z1, z2, zT1, z4, zF1, zL1⟩ := id hz.1
  have zNm := hz.2.1
  have zg := hz.2.2.1
  have zm := hz.2.2.2.1
  have zln := hz.2.2.2.2
  have vS := Vr_sg hv zm
  have zQ1 := fun i h1 h2 => (zNm i h1 h2).2.1
  have q1 := plf_b (s.2.2.2.2.2.1 - 3) pt
  have q2 := plf_b (-1) pt
  refine wa_aload_n (pc' := 1) dX10_spelled_0 rfl rfl rfl ?_
  refine wa_rI2 (pc' := 4) (st := []) (k_X10_signatureNow s _ _ _ _ _ _ _ _ _ _ _ _ _ _ _ _ _ _ _ _ _ _ hs hv ) ok_X10_signatureNow lm_X10_171 dX10_spelled_1 rfl (wM_ok _ _ _ _ _ _ _ _ _ _ _ _ _ _ _ _ _ _ _ _ _ _) rfl rfl (Nat.le_of_ble_eq_true rfl) rfl rfl rfl rfl (by decide) (Nat.le_of_ble_eq_true rfl) rfl (by decide) (by decide) rfl rfl ?_
  refine wa_iconst (pc' := 5) dX10_spelled_4 rfl ?_
  refine wa_isub (pc' := 6) dX10_spelled_5 rfl ?_
  refine wa_istore_n (pc' := 7) (ls' := [(2, _), (0, _), (1, _)]) dX10_spelled_6 rfl rfl (by decide) rfl ?_
  refine l_spelled1 _ _ _ _ _ _ _ _ _ _ _ _ _ _ _ _ _ _ _ _ _ _ pt (s.2.2.2.2.2.1 - 3) hp ?_ (plf (s.2.2.2.2.2.1 - 3) pt - (s.2.2.2.2.2.1 - 3)).toNat _ (by omega) (by omega) (by omega) rfl
  refine wa_aload_n (pc' := 22) dX10_spelled_21 rfl rfl rfl ?_
  refine wa_getfield (pc' := 25) (j := 5) zc_X10 lk_X10_19 dX10_spelled_22 rfl (by decide) rfl rfl ?_
  refine wa_if_eq (tgt := 55) (pc' := 28) dX10_spelled_25 (by decide) rfl (by omega) (fun c25 => ?_) (fun c25 => ?_)
  · refine wa_iload_n (pc' := 56) dX10_spelled_55 rfl rfl rfl ?_
    refine wa_iret dX10_spelled_56 rfl (by decide) (by decide) ?_
    first | exact zD_i (by rw [spl_0 zg (Or.inl (by omega))]) rfl | exact zD_i (by rw [spl_0 zg (Or.inr h36)]) rfl
  · refine wa_iload_n (pc' := 29) dX10_spelled_28 rfl rfl rfl ?_
    refine wa_bipush (pc' := 31) dX10_spelled_29 rfl rfl ?_
    refine wa_bipush (pc' := 33) dX10_spelled_31 rfl rfl ?_
    refine wa_dS (pc' := 36) (w' := [_, _, _, _, _, _, _, _, _, _]) (k_X10_in _ _ _ (by omega) (by omega) (by omega) ) ok_X10_in lm_X10_97 dX10_spelled_33 rfl [] rfl (by decide) rfl rfl (by decide) (Nat.le_of_ble_eq_true rfl) rfl (by decide) (by decide) rfl rfl rfl ?_
    refine wa_if_ne (tgt := 55) (pc' := 39) dX10_spelled_36 (by decide) rfl (by split <;> omega) (fun c36 => ?_) (fun c36 => ?_)
    · have h36 := ite1 c36
      refine wa_iload_n (pc' := 56) dX10_spelled_55 rfl rfl rfl ?_
      refine wa_iret dX10_spelled_56 rfl (by decide) (by decide) ?_
      first | exact zD_i (by rw [spl_0 zg (Or.inl (by omega))]) rfl | exact zD_i (by rw [spl_0 zg (Or.inr h36)]) rfl
    · have h36 := ite0 c36
      refine wa_iconst (pc' := 40) dX10_spelled_39 rfl ?_
      refine wa_istore_n (pc' := 41) (ls' := [(2, _), (0, _), (1, _)]) dX10_spelled_40 rfl rfl (by decide) rfl ?_
      refine l_spelled2 _ _ _ _ _ _ _ _ _ _ _ _ _ _ _ _ _ _ _ _ _ _ pt (-1) hp ?_ (plf (-1) pt - -1).toNat (-1) (by omega) (by omega) (by omega) rfl
      refine wa_iload_n (pc' := 56) dX10_spelled_55 rfl rfl rfl ?_
      refine wa_iret dX10_spelled_56 rfl (by decide) (by decide) ?_
      exact zD_i (by rw [spl_1 zg (by omega) h36]) rfl

set_option maxRecDepth 10000 in
set_option maxHeartbeats 1000000 in
theorem l_diff (s : zSh) (v pa : Int → Int) (sn : Int) (tx : Int → Int) (ty si fl wi th ap nt rr rq rb wh : Int) (md na : Int → Int) (nd : Int) (up lo : Int → Int) (us lw : Int) (fr : Int) (hf : 0 ≤ fr ∧ fr ≤ 7) (hs : okW s) (hv : Vr s v) (R : Int) : ∀ (m : Nat) (i la ha n h : Int), 0 ≤ i → i + m = s.2.2.2.2.1 → (0 ≤ n ∧ n ≤ 10 + 10 * i) → ((ha = 0 ∧ h = 100 ∧ -1 ≤ la ∧ la < 12) ∨ (ha = 1 ∧ 0 < i ∧ h = la ∧ 0 ≤ la ∧ la < 12)) → dfR s.2.2.1 fr m i n h = R → Wa q_X10_difficultyOf 2 0 0 10 (zD (some (zI R)) (wM v pa sn tx ty si fl wi th ap nt rr rq rb wh md na nd up lo us lw)) 10 [(5, zI i), (4, zI la), (3, zI ha), (2, zI n), (0, zR 0), (1, zI fr)] [] (wM v pa sn tx ty si fl wi th ap nt rr rq rb wh md na nd up lo us lw) 0 0 := by
  obtain ⟨v0, v1, v2, v3, vT, vF, vL⟩ := id hv
  have hz := hs.1
  obtain ⟨z1, z2, zT1, z4, zF1, zL1⟩ := id hz.1
  have zNm := hz.2.1
  have zg := hz.2.2.1
  have zm := hz.2.2.2.1
  have zln := hz.2.2.2.2
  have vS := Vr_sg hv zm
  have zQ1 := fun i h1 h2 => (zNm i h1 h2).2.1
  intro m
  induction m with
  | zero =>
    intro i la ha n h h0 hm hn hh hR
    refine wa_iload (pc' := 12) dX10_difficultyOf_10 rfl rfl ?_
    refine wa_aload_n (pc' := 13) dX10_difficultyOf_12 rfl rfl rfl ?_
    refine wa_getfield (pc' := 16) (j := 0) zc_X10 lk_X10_7 dX10_difficultyOf_13 rfl (by decide) rfl rfl ?_
    refine wa_iconst (pc' := 17) dX10_difficultyOf_16 rfl ?_
    refine wa_iaload (pc' := 18) dX10_difficultyOf_17 rfl rfl (by omega) (by omega) (by decide) ?_
    refine wa_icmp_ge (tgt := 194) (pc' := 21) dX10_difficultyOf_18 (by decide) rfl (by omega) (by omega) (fun c18 => ?_) (fun c18 => ?_)
    · refine wa_iload_n (pc' := 195) dX10_difficultyOf_194 rfl rfl rfl ?_
      refine wa_iret dX10_difficultyOf_195 rfl (by decide) (by decide) ?_
      exact zD_i (by rw [← hR]; rfl) rfl
    · exact absurd c18 (by omega)
  | succ m ih =>
    intro i la ha n h h0 hm hn hh hR
    have f2 := Vr_F hv (i := i) (f := 2) (by omega) (by omega)
    have f3 := Vr_F hv (i := i) (f := 3) (by omega) (by omega)
    have f4 := Vr_F hv (i := i) (f := 4) (by omega) (by omega)
    have b2 := zF1 (i * 5 + 2) (by omega) (by omega)
    have b4 := zF1 (i * 5 + 4) (by omega) (by omega)
    have b3 := zQ1 i (by omega) (by omega)
    have p2 := pcl_b (s.2.2.1 (i * 5 + 2))
    have p4 := pcl_b (s.2.2.1 (i * 5 + 4))
    rw [dfR] at hR
    have hro : (pcl (s.2.2.1 (i * 5 + 2)) - fr) % 12 = (7 * s.2.2.1 (i * 5 + 2) + -fr) % 12 := by unfold pcl; omega
    generalize hr : (7 * s.2.2.1 (i * 5 + 2) + -fr) % 12 = r at hR hro
    have hr2 : 0 ≤ r ∧ r < 12 := by omega
    have hes := esI_e hr2 b3
    generalize he : easyF (s.2.2.1 (i * 5 + 3)).toNat r = e at hR hes
    have he2 : e = 0 ∨ e = 1 := by rw [← he]; exact easyF_01 _ _
    have q9 : ∀ y z : Int, (y = 4 ∧ e = 0 ∨ y = 1 ∧ e = 1) → True := fun _ _ _ => trivial
    refine wa_iload (pc' := 12) dX10_difficultyOf_10 rfl rfl ?_
    refine wa_aload_n (pc' := 13) dX10_difficultyOf_12 rfl rfl rfl ?_
    refine wa_getfield (pc' := 16) (j := 0) zc_X10 lk_X10_7 dX10_difficultyOf_13 rfl (by decide) rfl rfl ?_
    refine wa_iconst (pc' := 17) dX10_difficultyOf_16 rfl ?_
    refine wa_iaload (pc' := 18) dX10_difficultyOf_17 rfl rfl (by omega) (by omega) (by decide) ?_
    refine wa_icmp_ge (tgt := 194) (pc' := 21) dX10_difficultyOf_18 (by decide) rfl (by omega) (by omega) (fun c18 => ?_) (fun c18 => ?_)
    · exact absurd c18 (by omega)
    · refine wa_iload (pc' := 23) dX10_difficultyOf_21 rfl rfl ?_
      refine wa_dS (pc' := 26) (w' := [_, _, _, _, _, _, _, _, _, _]) (k_X10_chord i (by omega)) ok_X10_chord lm_X10_94 dX10_difficultyOf_23 rfl [] rfl (by decide) rfl rfl (by decide) (Nat.le_of_ble_eq_true rfl) rfl (by decide) (by decide) rfl rfl rfl ?_
      refine wa_istore (pc' := 28) (ls' := [(6, _), (5, _), (4, _), (3, _), (2, _), (0, _), (1, _)]) dX10_difficultyOf_26 rfl (by decide) rfl ?_
      refine wa_aload_n (pc' := 29) dX10_difficultyOf_28 rfl rfl rfl ?_
      refine wa_getfield (pc' := 32) (j := 0) zc_X10 lk_X10_7 dX10_difficultyOf_29 rfl (by decide) rfl rfl ?_
      refine wa_iload (pc' := 34) dX10_difficultyOf_32 rfl rfl ?_
      refine wa_iconst (pc' := 35) dX10_difficultyOf_34 rfl ?_
      refine wa_iadd (pc' := 36) dX10_difficultyOf_35 rfl ?_
      refine wa_iaload (pc' := 37) dX10_difficultyOf_36 rfl rfl (by omega) (by omega) (by decide) ?_
      rw [f2]
      refine wa_dS (pc' := 40) (w' := [_, _, _, _, _, _, _, _, _, _]) (k_X10_pitch (s.2.2.1 (i * 5 + 2)) (by omega)) ok_X10_pitch lm_X10_161 dX10_difficultyOf_37 rfl [] rfl (by decide) rfl rfl (by decide) (Nat.le_of_ble_eq_true rfl) rfl (by decide) (by decide) rfl rfl rfl ?_
      refine wa_iload_n (pc' := 41) dX10_difficultyOf_40 rfl rfl rfl ?_
      refine wa_isub (pc' := 42) dX10_difficultyOf_41 rfl ?_
      refine wa_dS (pc' := 45) (w' := [_, _, _, _, _, _, _, _, _, _]) (k_X10_mod12 (pcl (s.2.2.1 (i * 5 + 2)) - fr) (by omega)) ok_X10_mod12 lm_X10_52 dX10_difficultyOf_42 rfl [] rfl (by decide) rfl rfl (by decide) (Nat.le_of_ble_eq_true rfl) rfl (by decide) (by decide) rfl rfl rfl ?_
      rw [hro]
      refine wa_istore (pc' := 47) (ls' := [(7, _), (6, _), (5, _), (4, _), (3, _), (2, _), (0, _), (1, _)]) dX10_difficultyOf_45 rfl (by decide) rfl ?_
      refine wa_join (J := 69) (P := fun x => x = 1 - e) (fun x69 e69 => ?_) (fun K69 => ?_)
      · refine wa_istore (pc' := 71) (ls' := [(8, _), (7, _), (6, _), (5, _), (4, _), (3, _), (2, _), (0, _), (1, _)]) dX10_difficultyOf_69 rfl (by decide) rfl ?_
        refine wa_iload_n (pc' := 72) dX10_difficultyOf_71 rfl rfl rfl ?_
        refine wa_join (J := 82) (P := fun x => x = 4 ∧ e = 0 ∨ x = 1 ∧ e = 1) (fun x82 e82 => ?_) (fun K82 => ?_)
        · refine wa_join (J := 100) (P := fun x => x = 1 ∧ (3 < s.2.2.1 (i * 5 + 3)) ∨ x = 0 ∧ ¬ (3 < s.2.2.1 (i * 5 + 3))) (fun x100 e100 => ?_) (fun K100 => ?_)
          · refine wa_iadd (pc' := 101) dX10_difficultyOf_100 rfl ?_
            refine wa_iadd (pc' := 102) dX10_difficultyOf_101 rfl ?_
            refine wa_istore_n (pc' := 103) (ls' := [(2, _), (8, _), (7, _), (6, _), (5, _), (4, _), (3, _), (0, _), (1, _)]) dX10_difficultyOf_102 rfl rfl (by decide) rfl ?_
            refine wa_iload_n (pc' := 104) dX10_difficultyOf_103 rfl rfl rfl ?_
            refine wa_join (J := 150) (P := fun x => x = 1 ∧ (s.2.2.1 (i * 5 + 4) ≠ 100 ∧ pcl (s.2.2.1 (i * 5 + 4)) ≠ pcl (s.2.2.1 (i * 5 + 2))) ∨ x = 0 ∧ ¬ (s.2.2.1 (i * 5 + 4) ≠ 100 ∧ pcl (s.2.2.1 (i * 5 + 4)) ≠ pcl (s.2.2.1 (i * 5 + 2)))) (fun x150 e150 => ?_) (fun K150 => ?_)
            · refine wa_iadd (pc' := 151) dX10_difficultyOf_150 rfl ?_
              refine wa_istore_n (pc' := 152) (ls' := [(2, _), (8, _), (7, _), (6, _), (5, _), (4, _), (3, _), (0, _), (1, _)]) dX10_difficultyOf_151 rfl rfl (by decide) rfl ?_
              refine wa_iload_n (pc' := 153) dX10_difficultyOf_152 rfl rfl rfl ?_
              refine wa_join (J := 179) (P := fun x => x = 1 ∧ (e = 0 ∧ h ≠ 100 ∧ h ≠ r) ∨ x = 0 ∧ ¬ (e = 0 ∧ h ≠ 100 ∧ h ≠ r)) (fun x179 e179 => ?_) (fun K179 => ?_)
              · refine wa_iadd (pc' := 180) dX10_difficultyOf_179 rfl ?_
                refine wa_istore_n (pc' := 181) (ls' := [(2, _), (8, _), (7, _), (6, _), (5, _), (4, _), (3, _), (0, _), (1, _)]) dX10_difficultyOf_180 rfl rfl (by decide) rfl ?_
                refine wa_iload (pc' := 183) dX10_difficultyOf_181 rfl rfl ?_
                refine wa_istore_n (pc' := 184) (ls' := [(3, _), (2, _), (8, _), (7, _), (6, _), (5, _), (4, _), (0, _), (1, _)]) dX10_difficultyOf_183 rfl rfl (by decide) rfl ?_
                refine wa_iload (pc' := 186) dX10_difficultyOf_184 rfl rfl ?_
                refine wa_istore (pc' := 188) (ls' := [(4, _), (3, _), (2, _), (8, _), (7, _), (6, _), (5, _), (0, _), (1, _)]) dX10_difficultyOf_186 rfl (by decide) rfl ?_
                refine wa_iinc (pc' := 191) (ls' := [(5, _), (4, _), (3, _), (2, _), (8, _), (7, _), (6, _), (0, _), (1, _)]) dX10_difficultyOf_188 rfl rfl (by decide) rfl ?_
                refine wa_goto (pc' := 10) dX10_difficultyOf_191 (by decide) ?_
                refine wa_sub [0, 1, 2, 3, 7, 8] rfl ?_
                refine ih (i + 1) r x69 (n + (x82 + x100) + x150 + x179) (if e = 0 then r else 100) (by omega) (by omega) (by omega) ?_ ?_
                · rcases he2 with h9 | h9
                  · rw [if_pos h9]; omega
                  · rw [if_neg (by omega)]; omega
                · have s1 : shD (s.2.2.1 (i * 5 + 3)) (s.2.2.1 (i * 5 + 4)) (s.2.2.1 (i * 5 + 2)) e = x82 + x100 + x150 := by unfold shD; (repeat' split) <;> omega
                  have s2 : (if e = 0 ∧ h ≠ 100 ∧ h ≠ r then (1 : Int) else 0) = x179 := by split <;> omega
                  rw [← hR, s1, s2]
                  congr 1; omega
              · refine wa_iload (pc' := 155) dX10_difficultyOf_153 rfl rfl ?_
                refine wa_if_le (tgt := 178) (pc' := 158) dX10_difficultyOf_155 (by decide) rfl (by omega) (fun c155 => ?_) (fun c155 => ?_)
                · refine wa_iconst (pc' := 179) dX10_difficultyOf_178 rfl ?_
                  exact K179 _ (by show _ ∨ _; omega)
                · refine wa_iload (pc' := 160) dX10_difficultyOf_158 rfl rfl ?_
                  refine wa_if_eq (tgt := 178) (pc' := 163) dX10_difficultyOf_160 (by decide) rfl (by omega) (fun c160 => ?_) (fun c160 => ?_)
                  · refine wa_iconst (pc' := 179) dX10_difficultyOf_178 rfl ?_
                    exact K179 _ (by show _ ∨ _; omega)
                  · refine wa_iload_n (pc' := 164) dX10_difficultyOf_163 rfl rfl rfl ?_
                    refine wa_if_eq (tgt := 178) (pc' := 167) dX10_difficultyOf_164 (by decide) rfl (by omega) (fun c164 => ?_) (fun c164 => ?_)
                    · refine wa_iconst (pc' := 179) dX10_difficultyOf_178 rfl ?_
                      exact K179 _ (by show _ ∨ _; omega)
                    · refine wa_iload (pc' := 169) dX10_difficultyOf_167 rfl rfl ?_
                      refine wa_iload (pc' := 171) dX10_difficultyOf_169 rfl rfl ?_
                      refine wa_icmp_eq (tgt := 178) (pc' := 174) dX10_difficultyOf_171 (by decide) rfl (by omega) (by omega) (fun c171 => ?_) (fun c171 => ?_)
                      · refine wa_iconst (pc' := 179) dX10_difficultyOf_178 rfl ?_
                        exact K179 _ (by show _ ∨ _; omega)
                      · refine wa_iconst (pc' := 175) dX10_difficultyOf_174 rfl ?_
                        refine wa_goto (pc' := 179) dX10_difficultyOf_175 (by decide) ?_
                        exact K179 _ (by show _ ∨ _; omega)
            · refine wa_aload_n (pc' := 105) dX10_difficultyOf_104 rfl rfl rfl ?_
              refine wa_getfield (pc' := 108) (j := 0) zc_X10 lk_X10_7 dX10_difficultyOf_105 rfl (by decide) rfl rfl ?_
              refine wa_iload (pc' := 110) dX10_difficultyOf_108 rfl rfl ?_
              refine wa_iconst (pc' := 111) dX10_difficultyOf_110 rfl ?_
              refine wa_iadd (pc' := 112) dX10_difficultyOf_111 rfl ?_
              refine wa_iaload (pc' := 113) dX10_difficultyOf_112 rfl rfl (by omega) (by omega) (by decide) ?_
              rw [f4]
              refine wa_bipush (pc' := 115) dX10_difficultyOf_113 rfl rfl ?_
              refine wa_icmp_eq (tgt := 149) (pc' := 118) dX10_difficultyOf_115 (by decide) rfl (by omega) (by omega) (fun c115 => ?_) (fun c115 => ?_)
              · refine wa_iconst (pc' := 150) dX10_difficultyOf_149 rfl ?_
                exact K150 _ (by show _ ∨ _; omega)
              · refine wa_aload_n (pc' := 119) dX10_difficultyOf_118 rfl rfl rfl ?_
                refine wa_getfield (pc' := 122) (j := 0) zc_X10 lk_X10_7 dX10_difficultyOf_119 rfl (by decide) rfl rfl ?_
                refine wa_iload (pc' := 124) dX10_difficultyOf_122 rfl rfl ?_
                refine wa_iconst (pc' := 125) dX10_difficultyOf_124 rfl ?_
                refine wa_iadd (pc' := 126) dX10_difficultyOf_125 rfl ?_
                refine wa_iaload (pc' := 127) dX10_difficultyOf_126 rfl rfl (by omega) (by omega) (by decide) ?_
                rw [f4]
                refine wa_dS (pc' := 130) (w' := [_, _, _, _, _, _, _, _, _, _]) (k_X10_pitch (s.2.2.1 (i * 5 + 4)) (by omega)) ok_X10_pitch lm_X10_161 dX10_difficultyOf_127 rfl [] rfl (by decide) rfl rfl (by decide) (Nat.le_of_ble_eq_true rfl) rfl (by decide) (by decide) rfl rfl rfl ?_
                refine wa_aload_n (pc' := 131) dX10_difficultyOf_130 rfl rfl rfl ?_
                refine wa_getfield (pc' := 134) (j := 0) zc_X10 lk_X10_7 dX10_difficultyOf_131 rfl (by decide) rfl rfl ?_
                refine wa_iload (pc' := 136) dX10_difficultyOf_134 rfl rfl ?_
                refine wa_iconst (pc' := 137) dX10_difficultyOf_136 rfl ?_
                refine wa_iadd (pc' := 138) dX10_difficultyOf_137 rfl ?_
                refine wa_iaload (pc' := 139) dX10_difficultyOf_138 rfl rfl (by omega) (by omega) (by decide) ?_
                rw [f2]
                refine wa_dS (pc' := 142) (w' := [_, _, _, _, _, _, _, _, _, _]) (k_X10_pitch (s.2.2.1 (i * 5 + 2)) (by omega)) ok_X10_pitch lm_X10_161 dX10_difficultyOf_139 rfl [] rfl (by decide) rfl rfl (by decide) (Nat.le_of_ble_eq_true rfl) rfl (by decide) (by decide) rfl rfl rfl ?_
                refine wa_icmp_eq (tgt := 149) (pc' := 145) dX10_difficultyOf_142 (by decide) rfl (by omega) (by omega) (fun c142 => ?_) (fun c142 => ?_)
                · refine wa_iconst (pc' := 150) dX10_difficultyOf_149 rfl ?_
                  exact K150 _ (by show _ ∨ _; omega)
                · refine wa_iconst (pc' := 146) dX10_difficultyOf_145 rfl ?_
                  refine wa_goto (pc' := 150) dX10_difficultyOf_146 (by decide) ?_
                  exact K150 _ (by show _ ∨ _; omega)
          · refine wa_aload_n (pc' := 83) dX10_difficultyOf_82 rfl rfl rfl ?_
            refine wa_getfield (pc' := 86) (j := 0) zc_X10 lk_X10_7 dX10_difficultyOf_83 rfl (by decide) rfl rfl ?_
            refine wa_iload (pc' := 88) dX10_difficultyOf_86 rfl rfl ?_
            refine wa_iconst (pc' := 89) dX10_difficultyOf_88 rfl ?_
            refine wa_iadd (pc' := 90) dX10_difficultyOf_89 rfl ?_
            refine wa_iaload (pc' := 91) dX10_difficultyOf_90 rfl rfl (by omega) (by omega) (by decide) ?_
            rw [f3]
            refine wa_iconst (pc' := 92) dX10_difficultyOf_91 rfl ?_
            refine wa_icmp_le (tgt := 99) (pc' := 95) dX10_difficultyOf_92 (by decide) rfl (by omega) (by omega) (fun c92 => ?_) (fun c92 => ?_)
            · refine wa_iconst (pc' := 100) dX10_difficultyOf_99 rfl ?_
              exact K100 _ (by show _ ∨ _; omega)
            · refine wa_iconst (pc' := 96) dX10_difficultyOf_95 rfl ?_
              refine wa_goto (pc' := 100) dX10_difficultyOf_96 (by decide) ?_
              exact K100 _ (by show _ ∨ _; omega)
        · refine wa_iload (pc' := 74) dX10_difficultyOf_72 rfl rfl ?_
          refine wa_if_eq (tgt := 81) (pc' := 77) dX10_difficultyOf_74 (by decide) rfl (by omega) (fun c74 => ?_) (fun c74 => ?_)
          · refine wa_iconst (pc' := 82) dX10_difficultyOf_81 rfl ?_
            exact K82 _ (by show _ ∨ _; omega)
          · refine wa_iconst (pc' := 78) dX10_difficultyOf_77 rfl ?_
            refine wa_goto (pc' := 82) dX10_difficultyOf_78 (by decide) ?_
            exact K82 _ (by show _ ∨ _; omega)
      · refine wa_iload (pc' := 49) dX10_difficultyOf_47 rfl rfl ?_
        refine wa_aload_n (pc' := 50) dX10_difficultyOf_49 rfl rfl rfl ?_
        refine wa_getfield (pc' := 53) (j := 0) zc_X10 lk_X10_7 dX10_difficultyOf_50 rfl (by decide) rfl rfl ?_
        refine wa_iload (pc' := 55) dX10_difficultyOf_53 rfl rfl ?_
        refine wa_iconst (pc' := 56) dX10_difficultyOf_55 rfl ?_
        refine wa_iadd (pc' := 57) dX10_difficultyOf_56 rfl ?_
        refine wa_iaload (pc' := 58) dX10_difficultyOf_57 rfl rfl (by omega) (by omega) (by decide) ?_
        rw [f3]
        refine wa_dS (pc' := 61) (w' := [_, _, _, _, _, _, _, _, _, _]) (k_X10_isEasy r (s.2.2.1 (i * 5 + 3)) hr2 b3) ok_X10_isEasy lm_X10_194 dX10_difficultyOf_58 rfl [] rfl (by decide) rfl rfl (by decide) (Nat.le_of_ble_eq_true rfl) rfl (by decide) (by decide) rfl rfl rfl ?_
        rw [hes]
        refine wa_if_ne (tgt := 68) (pc' := 64) dX10_difficultyOf_61 (by decide) rfl (by omega) (fun c61 => ?_) (fun c61 => ?_)
        · refine wa_iconst (pc' := 69) dX10_difficultyOf_68 rfl ?_
          exact K69 _ (by show _ = _; omega)
        · refine wa_iconst (pc' := 65) dX10_difficultyOf_64 rfl ?_
          refine wa_goto (pc' := 69) dX10_difficultyOf_65 (by decide) ?_
          exact K69 _ (by show _ = _; omega)

set_option maxRecDepth 10000 in
set_option maxHeartbeats 1000000 in
theorem k_X10_difficultyOf (s : zSh) (v pa : Int → Int) (sn : Int) (tx : Int → Int) (ty si fl wi th ap nt rr rq rb wh : Int) (md na : Int → Int) (nd : Int) (up lo : Int → Int) (us lw : Int) (fr : Int) (hs : okW s) (hv : Vr s v) (hf : 0 ≤ fr ∧ fr ≤ 7) : zMet q_X10_difficultyOf 2 0 0 [zR 0, zI fr] (wM v pa sn tx ty si fl wi th ap nt rr rq rb wh md na nd up lo us lw) (zD (some (zI (dfF s.2.2.1 s.2.2.2.2.1 fr))) (wM v pa sn tx ty si fl wi th ap nt rr rq rb wh md na nd up lo us lw)) := by
  refine z_introF (ls := [(0, _), (1, _)]) (by decide +kernel) rfl (fun _ _ => rfl) (fun _ _ => Nat.le_of_ble_eq_true rfl) ?_
  obtain ⟨v0, v1, v2, v3, vT, vF, vL⟩ := id hv
  have hz := hs.1
  obtain ⟨z1, z2, zT1, z4, zF1, zL1⟩ := id hz.1
  have zNm := hz.2.1
  have zg := hz.2.2.1
  have zm := hz.2.2.2.1
  have zln := hz.2.2.2.2
  have vS := Vr_sg hv zm
  have zQ1 := fun i h1 h2 => (zNm i h1 h2).2.1
  refine wa_iload_n (pc' := 1) dX10_difficultyOf_0 rfl rfl rfl ?_
  refine wa_istore_n (pc' := 2) (ls' := [(2, _), (0, _), (1, _)]) dX10_difficultyOf_1 rfl rfl (by decide) rfl ?_
  refine wa_iconst (pc' := 3) dX10_difficultyOf_2 rfl ?_
  refine wa_istore_n (pc' := 4) (ls' := [(3, _), (2, _), (0, _), (1, _)]) dX10_difficultyOf_3 rfl rfl (by decide) rfl ?_
  refine wa_iconst (pc' := 5) dX10_difficultyOf_4 rfl ?_
  refine wa_istore (pc' := 7) (ls' := [(4, _), (3, _), (2, _), (0, _), (1, _)]) dX10_difficultyOf_5 rfl (by decide) rfl ?_
  refine wa_iconst (pc' := 8) dX10_difficultyOf_7 rfl ?_
  refine wa_istore (pc' := 10) (ls' := [(5, _), (4, _), (3, _), (2, _), (0, _), (1, _)]) dX10_difficultyOf_8 rfl (by decide) rfl ?_
  exact l_diff s _ _ _ _ _ _ _ _ _ _ _ _ _ _ _ _ _ _ _ _ _ _ fr hf hs hv _ s.2.2.2.2.1.toNat 0 (-1) 0 fr 100 (by omega) (by omega) (by omega) (by omega) rfl

set_option maxRecDepth 10000 in
set_option maxHeartbeats 1000000 in
theorem k_X10_difficulty (s : zSh) (v pa : Int → Int) (sn : Int) (tx : Int → Int) (ty si fl wi th ap nt rr rq rb wh : Int) (md na : Int → Int) (nd : Int) (up lo : Int → Int) (us lw : Int) (fr : Int) (hs : okW s) (hv : Vr s v) (hfr : zin fr) : zMet q_X10_difficulty 3 0 0 [zR 0, zI fr] (wM v pa sn tx ty si fl wi th ap nt rr rq rb wh md na nd up lo us lw) (zD (some (zI (if 0 ≤ fr ∧ fr ≤ 7 then dfF s.2.2.1 s.2.2.2.2.1 fr else 0))) (wM v pa sn tx ty si fl wi (if 0 ≤ fr ∧ fr ≤ 7 then 0 else 1) ap nt rr rq rb wh md na nd up lo us lw)) := by
  refine z_introF (ls := [(0, _), (1, _)]) (by decide +kernel) rfl (fun _ _ => rfl) (fun _ _ => Nat.le_of_ble_eq_true rfl) ?_
  obtain ⟨v0, v1, v2, v3, vT, vF, vL⟩ := id hv
  have hz := hs.1
  obtain ⟨z1, z2, zT1, z4, zF1, zL1⟩ := id hz.1
  have zNm := hz.2.1
  have zg := hz.2.2.1
  have zm := hz.2.2.2.1
  have zln := hz.2.2.2.2
  have vS := Vr_sg hv zm
  have zQ1 := fun i h1 h2 => (zNm i h1 h2).2.1
  refine wa_aload_n (pc' := 1) dX10_difficulty_0 rfl rfl rfl ?_
  refine wa_iconst (pc' := 2) dX10_difficulty_1 rfl ?_
  refine wa_putfield (pc' := 5) (j := 8) (w' := [zO _ [_, _, _, _, _, _, _, _, _, _, _, _, _, _, _, _, _, _, _, _, _, _, _, _], _, _, _, _, _, _, _, _, _]) zc_X10 lk_X10_46 dX10_difficulty_2 rfl (by decide) rfl rfl (Nat.le_of_ble_eq_true rfl) True.intro rfl ?_
  refine wa_iload_n (pc' := 6) dX10_difficulty_5 rfl rfl rfl ?_
  refine wa_iconst (pc' := 7) dX10_difficulty_6 rfl ?_
  refine wa_bipush (pc' := 9) dX10_difficulty_7 rfl rfl ?_
  refine wa_dS (pc' := 12) (w' := [_, _, _, _, _, _, _, _, _, _]) (k_X10_in _ _ _ (by omega) (by omega) (by omega) ) ok_X10_in lm_X10_97 dX10_difficulty_9 rfl [] rfl (by decide) rfl rfl (by decide) (Nat.le_of_ble_eq_true rfl) rfl (by decide) (by decide) rfl rfl rfl ?_
  refine wa_if_eq (tgt := 23) (pc' := 15) dX10_difficulty_12 (by decide) rfl (by split <;> omega) (fun c12 => ?_) (fun c12 => ?_)
  · have h12 := ite0 c12
    refine wa_aload_n (pc' := 24) dX10_difficulty_23 rfl rfl rfl ?_
    refine wa_iconst (pc' := 25) dX10_difficulty_24 rfl ?_
    refine wa_iD2 (pc' := 28) (st := []) (k_X10_fails _ _ _ _ _ _ _ _ _ _ _ _ _ _ _ _ _ _ _ _ _ _ _ ) ok_X10_fails lm_X10_101 dX10_difficulty_25 rfl (wM_ok _ _ _ _ _ _ _ _ _ _ _ _ _ _ _ _ _ _ _ _ _ _) (Eq.refl 10) (wM_ok _ _ _ _ _ _ _ _ _ _ _ _ _ _ _ _ _ _ _ _ _ _) rfl rfl (Nat.le_of_ble_eq_true rfl) rfl rfl rfl rfl (by decide) (Nat.le_of_ble_eq_true rfl) rfl (by decide) (by decide) rfl rfl ?_
    show Wa _ _ _ _ _ _ _ _ [_] _ _ _
    refine wa_iret dX10_difficulty_28 rfl (by decide) (by decide) ?_
    first | exact zD_i (by rw [if_pos (by omega)]) (by rw [if_pos (by omega)]) | exact zD_i (by rw [if_neg (by omega)]) (by rw [if_neg (by omega)])
  · have h12 := ite1 c12
    refine wa_aload_n (pc' := 16) dX10_difficulty_15 rfl rfl rfl ?_
    refine wa_iload_n (pc' := 17) dX10_difficulty_16 rfl rfl rfl ?_
    refine wa_rI2 (pc' := 20) (st := []) (k_X10_difficultyOf s _ _ _ _ _ _ _ _ _ _ _ _ _ _ _ _ _ _ _ _ _ _ fr hs hv (by omega)) ok_X10_difficultyOf lm_X10_197 dX10_difficulty_17 rfl (wM_ok _ _ _ _ _ _ _ _ _ _ _ _ _ _ _ _ _ _ _ _ _ _) rfl rfl (Nat.le_of_ble_eq_true rfl) rfl rfl rfl rfl (by decide) (Nat.le_of_ble_eq_true rfl) rfl (by decide) (by decide) rfl rfl ?_
    refine wa_goto (pc' := 28) dX10_difficulty_20 (by decide) ?_
    refine wa_iret dX10_difficulty_28 rfl (by decide) (by decide) ?_
    first | exact zD_i (by rw [if_pos (by omega)]) (by rw [if_pos (by omega)]) | exact zD_i (by rw [if_neg (by omega)]) (by rw [if_neg (by omega)])

set_option maxRecDepth 10000 in
set_option maxHeartbeats 1000000 in
theorem l_best (s : zSh) (v pa : Int → Int) (sn : Int) (tx : Int → Int) (ty si fl wi th ap nt rr rq rb wh : Int) (md na : Int → Int) (nd : Int) (up lo : Int → Int) (us lw : Int) (hs : okW s) (hv : Vr s v) (R : Int) : ∀ (m : Nat) (f b : Int), 1 ≤ f → f + m = 8 → (0 ≤ b ∧ b ≤ 7) → efR (dfF s.2.2.1 s.2.2.2.2.1) m f b (dfF s.2.2.1 s.2.2.2.2.1 b) = R → Wa q_X10_bestCapo 3 0 0 10 (zD (some (zI R)) (wM v pa sn tx ty si fl wi 0 ap nt rr rq rb wh md na nd up lo us lw)) 9 [(2, zI f), (1, zI b), (0, zR 0)] [] (wM v pa sn tx ty si fl wi 0 ap nt rr rq rb wh md na nd up lo us lw) 0 0 := by
  obtain ⟨v0, v1, v2, v3, vT, vF, vL⟩ := id hv
  have hz := hs.1
  obtain ⟨z1, z2, zT1, z4, zF1, zL1⟩ := id hz.1
  have zNm := hz.2.1
  have zg := hz.2.2.1
  have zm := hz.2.2.2.1
  have zln := hz.2.2.2.2
  have vS := Vr_sg hv zm
  have zQ1 := fun i h1 h2 => (zNm i h1 h2).2.1
  intro m
  induction m with
  | zero =>
    intro f b h0 hm hb hR
    refine wa_iload_n (pc' := 10) dX10_bestCapo_9 rfl rfl rfl ?_
    refine wa_bipush (pc' := 12) dX10_bestCapo_10 rfl rfl ?_
    refine wa_icmp_gt (tgt := 40) (pc' := 15) dX10_bestCapo_12 (by decide) rfl (by omega) (by omega) (fun c12 => ?_) (fun c12 => ?_)
    · refine wa_iload_n (pc' := 41) dX10_bestCapo_40 rfl rfl rfl ?_
      refine wa_iret dX10_bestCapo_41 rfl (by decide) (by decide) ?_
      exact zD_i (by rw [← hR]; rfl) rfl
    · exact absurd c12 (by omega)
  | succ m ih =>
    intro f b h0 hm hb hR
    have d1 := dfF_b s.2.2.1 z4 (fr := f) (by omega)
    have d2 := dfF_b s.2.2.1 z4 (fr := b) hb
    rw [efR] at hR
    refine wa_iload_n (pc' := 10) dX10_bestCapo_9 rfl rfl rfl ?_
    refine wa_bipush (pc' := 12) dX10_bestCapo_10 rfl rfl ?_
    refine wa_icmp_gt (tgt := 40) (pc' := 15) dX10_bestCapo_12 (by decide) rfl (by omega) (by omega) (fun c12 => ?_) (fun c12 => ?_)
    · exact absurd c12 (by omega)
    · refine wa_join (J := 33) (P := fun x => x = f ∧ dfF s.2.2.1 s.2.2.2.2.1 f < dfF s.2.2.1 s.2.2.2.2.1 b ∨ x = b ∧ ¬ dfF s.2.2.1 s.2.2.2.2.1 f < dfF s.2.2.1 s.2.2.2.2.1 b) (fun x33 e33 => ?_) (fun K33 => ?_)
      · refine wa_istore_n (pc' := 34) (ls' := [(1, _), (2, _), (0, _)]) dX10_bestCapo_33 rfl rfl (by decide) rfl ?_
        refine wa_iinc (pc' := 37) (ls' := [(2, _), (1, _), (0, _)]) dX10_bestCapo_34 rfl rfl (by decide) rfl ?_
        refine wa_goto (pc' := 9) dX10_bestCapo_37 (by decide) ?_
        rcases e33 with ⟨e, h9⟩ | ⟨e, h9⟩
        · rw [if_pos h9, if_pos h9] at hR
          rw [e]
          exact ih (f + 1) f (by omega) (by omega) (by omega) hR
        · rw [if_neg h9, if_neg h9] at hR
          rw [e]
          exact ih (f + 1) b (by omega) (by omega) (by omega) hR
      · refine wa_aload_n (pc' := 16) dX10_bestCapo_15 rfl rfl rfl ?_
        refine wa_iload_n (pc' := 17) dX10_bestCapo_16 rfl rfl rfl ?_
        refine wa_rI2 (pc' := 20) (st := []) (k_X10_difficultyOf s _ _ _ _ _ _ _ _ _ _ _ _ _ _ _ _ _ _ _ _ _ _ f hs hv (by omega)) ok_X10_difficultyOf lm_X10_197 dX10_bestCapo_17 rfl (wM_ok _ _ _ _ _ _ _ _ _ _ _ _ _ _ _ _ _ _ _ _ _ _) rfl rfl (Nat.le_of_ble_eq_true rfl) rfl rfl rfl rfl (by decide) (Nat.le_of_ble_eq_true rfl) rfl (by decide) (by decide) rfl rfl ?_
        refine wa_aload_n (pc' := 21) dX10_bestCapo_20 rfl rfl rfl ?_
        refine wa_iload_n (pc' := 22) dX10_bestCapo_21 rfl rfl rfl ?_
        refine wa_rI2 (pc' := 25) (st := [_]) (k_X10_difficultyOf s _ _ _ _ _ _ _ _ _ _ _ _ _ _ _ _ _ _ _ _ _ _ b hs hv (by omega)) ok_X10_difficultyOf lm_X10_197 dX10_bestCapo_22 rfl (wM_ok _ _ _ _ _ _ _ _ _ _ _ _ _ _ _ _ _ _ _ _ _ _) rfl rfl (Nat.le_of_ble_eq_true rfl) rfl rfl rfl rfl (by decide) (Nat.le_of_ble_eq_true rfl) rfl (by decide) (by decide) rfl rfl ?_
        refine wa_icmp_ge (tgt := 32) (pc' := 28) dX10_bestCapo_25 (by decide) rfl (by omega) (by omega) (fun c25 => ?_) (fun c25 => ?_)
        · refine wa_iload_n (pc' := 33) dX10_bestCapo_32 rfl rfl rfl ?_
          exact K33 _ (by show _ ∨ _; omega)
        · refine wa_iload_n (pc' := 29) dX10_bestCapo_28 rfl rfl rfl ?_
          refine wa_goto (pc' := 33) dX10_bestCapo_29 (by decide) ?_
          exact K33 _ (by show _ ∨ _; omega)

set_option maxRecDepth 10000 in
set_option maxHeartbeats 1000000 in
theorem k_X10_bestCapo (s : zSh) (v pa : Int → Int) (sn : Int) (tx : Int → Int) (ty si fl wi th ap nt rr rq rb wh : Int) (md na : Int → Int) (nd : Int) (up lo : Int → Int) (us lw : Int)  (hs : okW s) (hv : Vr s v)  : zMet q_X10_bestCapo 3 0 0 [zR 0] (wM v pa sn tx ty si fl wi th ap nt rr rq rb wh md na nd up lo us lw) (zD (some (zI (efF s.2.2.1 s.2.2.2.2.1))) (wM v pa sn tx ty si fl wi 0 ap nt rr rq rb wh md na nd up lo us lw)) := by
  refine z_introF (ls := [(0, _)]) (by decide +kernel) rfl (fun _ _ => rfl) (fun _ _ => Nat.le_of_ble_eq_true rfl) ?_
  obtain ⟨v0, v1, v2, v3, vT, vF, vL⟩ := id hv
  have hz := hs.1
  obtain ⟨z1, z2, zT1, z4, zF1, zL1⟩ := id hz.1
  have zNm := hz.2.1
  have zg := hz.2.2.1
  have zm := hz.2.2.2.1
  have zln := hz.2.2.2.2
  have vS := Vr_sg hv zm
  have zQ1 := fun i h1 h2 => (zNm i h1 h2).2.1
  refine wa_aload_n (pc' := 1) dX10_bestCapo_0 rfl rfl rfl ?_
  refine wa_iconst (pc' := 2) dX10_bestCapo_1 rfl ?_
  refine wa_putfield (pc' := 5) (j := 8) (w' := [zO _ [_, _, _, _, _, _, _, _, _, _, _, _, _, _, _, _, _, _, _, _, _, _, _, _], _, _, _, _, _, _, _, _, _]) zc_X10 lk_X10_46 dX10_bestCapo_2 rfl (by decide) rfl rfl (Nat.le_of_ble_eq_true rfl) True.intro rfl ?_
  refine wa_iconst (pc' := 6) dX10_bestCapo_5 rfl ?_
  refine wa_istore_n (pc' := 7) (ls' := [(1, _), (0, _)]) dX10_bestCapo_6 rfl rfl (by decide) rfl ?_
  refine wa_iconst (pc' := 8) dX10_bestCapo_7 rfl ?_
  refine wa_istore_n (pc' := 9) (ls' := [(2, _), (1, _), (0, _)]) dX10_bestCapo_8 rfl rfl (by decide) rfl ?_
  exact l_best s _ _ _ _ _ _ _ _ 0 _ _ _ _ _ _ _ _ _ _ _ _ _ hs hv _ 7 1 0 (by omega) (by omega) (by omega) rfl

