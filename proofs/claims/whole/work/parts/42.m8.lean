/-! the reference: all notes spelled -/
abbrev sF (s : zSh) (F : Int → Int) : zSh := (s.1, s.2.1, F, s.2.2.2)
theorem spl_b {pt sg si : Int} (hs : -6 ≤ sg ∧ sg ≤ 6) : -9 ≤ spl pt sg si ∧ spl pt sg si ≤ 14 := by
  have h1 := plf_b (sg - 3) pt
  have h2 := plf_b (-1) pt
  unfold spl
  split <;> omega
theorem Vr_up {s : zSh} {v : Int → Int} (h : Vr s v) {i f : Int} (hi : 0 ≤ i ∧ i < s.2.2.2.2.1) (hc : s.2.2.2.2.1 ≤ 40) (hf : 0 ≤ f ∧ f < 5) (x : Int) (hlc : s.2.2.2.1 ≤ 201) : Vr (sF s (zup s.2.2.1 (i * 5 + f) x)) (zup v (210 + 5 * i + f) x) := by
  obtain ⟨h0, h1, h2, h3, hT, hF, hL⟩ := h
  refine ⟨(zup9_ne (by omega)).trans h0, (zup9_ne (by omega)).trans h1, (zup9_ne (by omega)).trans h2, (zup9_ne (by omega)).trans h3, ?_, ?_, ?_⟩
  · intro k k0 k1
    have k1 : k ≤ s.2.2.2.1 := k1
    rw [zup9_ne (by omega)]
    exact hT k k0 k1
  · intro t t0 t1
    have t1 : t < 5 * s.2.2.2.2.1 := t1
    show zup v (210 + 5 * i + f) x (210 + t) = zup s.2.2.1 (i * 5 + f) x t
    by_cases h9 : t = i * 5 + f
    · rw [h9, zup9_eq, show 210 + (i * 5 + f) = 210 + 5 * i + f by omega, zup9_eq]
    · rw [zup9_ne h9, zup9_ne (by omega)]
      exact hF t t0 t1
  · intro j j0 j1
    have j1 : j < s.2.1 s.2.2.2.1 := j1
    rw [zup9_ne (by omega)]
    exact hL j j0 j1
theorem okW_F {s : zSh} (h : okW s) {F : Int → Int} (h01 : ∀ i : Int, 0 ≤ i → i < s.2.2.2.2.1 → F (i * 5 + 0) = s.2.2.1 (i * 5 + 0) ∧ F (i * 5 + 1) = s.2.2.1 (i * 5 + 1)) (hb : ∀ j : Int, 0 ≤ j → j < 200 → -1000 ≤ F j ∧ F j ≤ 1000) (hN : okN (sF s F)) : okW (sF s F) := by
  obtain ⟨⟨hD, hn, hg, hm, hl⟩, g0, gT, gC, gS⟩ := h
  refine ⟨⟨⟨hD.1, hD.2.1, hD.2.2.1, hD.2.2.2.1, hb, hD.2.2.2.2.2⟩, hN, hg, hm, ?_⟩, g0, gT, ?_, ?_⟩
  · intro i h0 h1
    have h2 := hl i h0 h1
    have h3 := h01 i h0 h1
    show 0 ≤ F (i * 5 + 0) ∧ F (i * 5 + 0) < _
    rw [h3.1]
    exact h2
  · intro i h0 h1
    have h2 := gC i h0 h1
    have h3 := h01 i h0 h1
    show 0 ≤ F (i * 5 + 1) ∧ F (i * 5 + 1) ≤ s.2.1 (F (i * 5 + 0) + 1) - s.2.1 (F (i * 5 + 0))
    rw [h3.1, h3.2]
    exact h2
  · intro i j h0 h1 h2
    have h2' : j < s.2.2.2.2.1 := h2
    have h3 := gS i j h0 h1 h2
    have h4 := h01 i h0 (by omega)
    have h5 := h01 j (by omega) h2
    show F (i * 5 + 0) < F (j * 5 + 0) ∨ (F (i * 5 + 0) = F (j * 5 + 0) ∧ F (i * 5 + 1) ≤ F (j * 5 + 1))
    rw [h4.1, h4.2, h5.1, h5.2]
    exact h3
theorem okW_up {s : zSh} (h : okW s) {i f x : Int} (hi : 0 ≤ i ∧ i < s.2.2.2.2.1) (hf : (f = 2 ∧ -9 ≤ x ∧ x ≤ 14) ∨ (f = 3 ∧ 0 ≤ x ∧ x < 10) ∨ (f = 4 ∧ (x = 100 ∨ (-9 ≤ x ∧ x ≤ 14)))) : okW (sF s (zup s.2.2.1 (i * 5 + f) x)) := by
  have hN := h.1.2.1
  refine okW_F h ?_ (zup_b h.1.1.2.2.2.2.1 (by omega)) ?_
  · intro j j0 j1
    exact ⟨zup9_ne (by omega), zup9_ne (by omega)⟩
  · intro j j0 j1
    obtain ⟨n1, n2, n3⟩ := hN j j0 j1
    by_cases hj : j = i
    · subst hj
      rcases hf with ⟨rfl, h1, h2⟩ | ⟨rfl, h1, h2⟩ | ⟨rfl, h1⟩
      · refine ⟨?_, ?_, ?_⟩
        · show -9 ≤ zup s.2.2.1 (j * 5 + 2) x (j * 5 + 2) ∧ zup s.2.2.1 (j * 5 + 2) x (j * 5 + 2) ≤ 14
          rw [zup9_eq]; exact ⟨h1, h2⟩
        · show 0 ≤ zup s.2.2.1 (j * 5 + 2) x (j * 5 + 3) ∧ zup s.2.2.1 (j * 5 + 2) x (j * 5 + 3) < 10
          rw [zup9_ne (by omega)]; exact n2
        · show zup s.2.2.1 (j * 5 + 2) x (j * 5 + 4) = 100 ∨ (-9 ≤ zup s.2.2.1 (j * 5 + 2) x (j * 5 + 4) ∧ zup s.2.2.1 (j * 5 + 2) x (j * 5 + 4) ≤ 14)
          rw [zup9_ne (by omega)]; exact n3
      · refine ⟨?_, ?_, ?_⟩
        · show -9 ≤ zup s.2.2.1 (j * 5 + 3) x (j * 5 + 2) ∧ zup s.2.2.1 (j * 5 + 3) x (j * 5 + 2) ≤ 14
          rw [zup9_ne (by omega)]; exact n1
        · show 0 ≤ zup s.2.2.1 (j * 5 + 3) x (j * 5 + 3) ∧ zup s.2.2.1 (j * 5 + 3) x (j * 5 + 3) < 10
          rw [zup9_eq]; exact ⟨h1, h2⟩
        · show zup s.2.2.1 (j * 5 + 3) x (j * 5 + 4) = 100 ∨ (-9 ≤ zup s.2.2.1 (j * 5 + 3) x (j * 5 + 4) ∧ zup s.2.2.1 (j * 5 + 3) x (j * 5 + 4) ≤ 14)
          rw [zup9_ne (by omega)]; exact n3
      · refine ⟨?_, ?_, ?_⟩
        · show -9 ≤ zup s.2.2.1 (j * 5 + 4) x (j * 5 + 2) ∧ zup s.2.2.1 (j * 5 + 4) x (j * 5 + 2) ≤ 14
          rw [zup9_ne (by omega)]; exact n1
        · show 0 ≤ zup s.2.2.1 (j * 5 + 4) x (j * 5 + 3) ∧ zup s.2.2.1 (j * 5 + 4) x (j * 5 + 3) < 10
          rw [zup9_ne (by omega)]; exact n2
        · show zup s.2.2.1 (j * 5 + 4) x (j * 5 + 4) = 100 ∨ (-9 ≤ zup s.2.2.1 (j * 5 + 4) x (j * 5 + 4) ∧ zup s.2.2.1 (j * 5 + 4) x (j * 5 + 4) ≤ 14)
          rw [zup9_eq]; exact h1
    · refine ⟨?_, ?_, ?_⟩
      · show -9 ≤ zup s.2.2.1 (i * 5 + f) x (j * 5 + 2) ∧ zup s.2.2.1 (i * 5 + f) x (j * 5 + 2) ≤ 14
        rw [zup9_ne (by omega)]; exact n1
      · show 0 ≤ zup s.2.2.1 (i * 5 + f) x (j * 5 + 3) ∧ zup s.2.2.1 (i * 5 + f) x (j * 5 + 3) < 10
        rw [zup9_ne (by omega)]; exact n2
      · show zup s.2.2.1 (i * 5 + f) x (j * 5 + 4) = 100 ∨ (-9 ≤ zup s.2.2.1 (i * 5 + f) x (j * 5 + 4) ∧ zup s.2.2.1 (i * 5 + f) x (j * 5 + 4) ≤ 14)
        rw [zup9_ne (by omega)]; exact n3
set_option maxRecDepth 10000 in
set_option maxHeartbeats 1000000 in
theorem l_spells (s0 : zSh) (pa : Int → Int) (sn : Int) (tx : Int → Int) (ty si fl wi th ap nt rr rq rb wh : Int) (md na : Int → Int) (nd : Int) (up lo : Int → Int) (us lw : Int) (se : Int) (hse : -11 ≤ se ∧ se ≤ 11) (hsi : si = 0 ∨ si = 1) (R : Int × (Int → Int)) : ∀ (m : Nat) (i n : Int) (s : zSh) (v : Int → Int), okW s → Vr s v → sF s0 s.2.2.1 = s → 0 ≤ i → i + m = s.2.2.2.2.1 → spR se s.2.2.2.2.2.1 si m i n s.2.2.1 = R → Wa q_X10_spells 3 0 0 10 (fun o w' => ∃ x : Int → Int, (Vr (sF s0 R.2) x ∧ okW (sF s0 R.2)) ∧ o = .inl (some (zI R.1)) ∧ w' = (wM x pa sn tx ty si fl wi th ap nt rr rq rb wh md na nd up lo us lw)) 4 [(3, zI i), (2, zI n), (0, zR 0), (1, zI se)] [] (wM v pa sn tx ty si fl wi th ap nt rr rq rb wh md na nd up lo us lw) 0 0 := by
  intro m
  induction m with
  | zero =>
    intro i n s v hs hv h9 h0 hm hR
    obtain ⟨v0, v1, v2, v3, vT, vF, vL⟩ := id hv
    have hz := hs.1
    obtain ⟨z1, z2, zT1, z4, zF1, zL1⟩ := id hz.1
    have zNm := hz.2.1
    have zg := hz.2.2.1
    have zm := hz.2.2.2.1
    have zln := hz.2.2.2.2
    have vS := Vr_sg hv zm
    have zQ1 := fun i h1 h2 => (zNm i h1 h2).2.1
    refine wa_iload_n (pc' := 5) dX10_spells_4 rfl rfl rfl ?_
    refine wa_aload_n (pc' := 6) dX10_spells_5 rfl rfl rfl ?_
    refine wa_getfield (pc' := 9) (j := 0) zc_X10 lk_X10_7 dX10_spells_6 rfl (by decide) rfl rfl ?_
    refine wa_iconst (pc' := 10) dX10_spells_9 rfl ?_
    refine wa_iaload (pc' := 11) dX10_spells_10 rfl rfl (by omega) (by omega) (by decide) ?_
    refine wa_icmp_ge (tgt := 113) (pc' := 14) dX10_spells_11 (by decide) rfl (by omega) (by omega) (fun c11 => ?_) (fun c11 => ?_)
    · refine wa_iload_n (pc' := 114) dX10_spells_113 rfl rfl rfl ?_
      refine wa_iret dX10_spells_114 rfl (by decide) (by decide) ?_
      refine ⟨v, ⟨?_, ?_⟩, ?_, rfl⟩
      · rw [← hR]; show Vr (sF s0 s.2.2.1) v; rw [h9]; exact hv
      · rw [← hR]; show okW (sF s0 s.2.2.1); rw [h9]; exact hs
      · rw [← hR]; rfl
    · exact absurd c11 (by omega)
  | succ m ih =>
    intro i n s v hs hv h9 h0 hm hR
    obtain ⟨v0, v1, v2, v3, vT, vF, vL⟩ := id hv
    have hz := hs.1
    obtain ⟨z1, z2, zT1, z4, zF1, zL1⟩ := id hz.1
    have zNm := hz.2.1
    have zg := hz.2.2.1
    have zm := hz.2.2.2.1
    have zln := hz.2.2.2.2
    have vS := Vr_sg hv zm
    have zQ1 := fun i h1 h2 => (zNm i h1 h2).2.1
    have f2 := Vr_F hv (i := i) (f := 2) (by omega) (by omega)
    have f3 := Vr_F hv (i := i) (f := 3) (by omega) (by omega)
    have f4 := Vr_F hv (i := i) (f := 4) (by omega) (by omega)
    have b2 := zF1 (i * 5 + 2) (by omega) (by omega)
    have b4 := zF1 (i * 5 + 4) (by omega) (by omega)
    have b3 := zQ1 i (by omega) (by omega)
    obtain ⟨n1, n2, n3⟩ := zNm i (by omega) (by omega)
    have p2 := pcl_b (s.2.2.1 (i * 5 + 2))
    have m2 : (pcl (s.2.2.1 (i * 5 + 2)) + se) % 12 = (7 * (s.2.2.1 (i * 5 + 2)) + se) % 12 := by unfold pcl; omega
    have m4 : (pcl (s.2.2.1 (i * 5 + 4)) + se) % 12 = (7 * (s.2.2.1 (i * 5 + 4)) + se) % 12 := by unfold pcl; omega
    have e2 : spl ((7 * (s.2.2.1 (i * 5 + 2)) + se) % 12) s.2.2.2.2.2.1 si = spP (s.2.2.1 (i * 5 + 2)) se s.2.2.2.2.2.1 si := rfl
    have e4 : spl ((7 * (s.2.2.1 (i * 5 + 4)) + se) % 12) s.2.2.2.2.2.1 si = spP (s.2.2.1 (i * 5 + 4)) se s.2.2.2.2.2.1 si := rfl
    have bx2 : -9 ≤ spP (s.2.2.1 (i * 5 + 2)) se s.2.2.2.2.2.1 si ∧ spP (s.2.2.1 (i * 5 + 2)) se s.2.2.2.2.2.1 si ≤ 14 := spl_b zg
    have bx4 : -9 ≤ spP (s.2.2.1 (i * 5 + 4)) se s.2.2.2.2.2.1 si ∧ spP (s.2.2.1 (i * 5 + 4)) se s.2.2.2.2.2.1 si ≤ 14 := spl_b zg
    have p4 := pcl_b (s.2.2.1 (i * 5 + 4))
    have s1 := okW_up hs (i := i) (f := 2) (x := spP (s.2.2.1 (i * 5 + 2)) se s.2.2.2.2.2.1 si) (by omega) (Or.inl ⟨rfl, bx2⟩)
    have w1 := Vr_up hv (i := i) (f := 2) (by omega) (by omega) (by omega) (spP (s.2.2.1 (i * 5 + 2)) se s.2.2.2.2.2.1 si) (by omega)
    have g4 : zup v (210 + 5 * i + 2) (spP (s.2.2.1 (i * 5 + 2)) se s.2.2.2.2.2.1 si) (210 + 5 * i + 4) = s.2.2.1 (i * 5 + 4) := (zup9_ne (by omega)).trans f4
    have g5 : zup s.2.2.1 (i * 5 + 2) (spP (s.2.2.1 (i * 5 + 2)) se s.2.2.2.2.2.1 si) (i * 5 + 4) = s.2.2.1 (i * 5 + 4) := zup9_ne (by omega)
    have u2 : spU s.2.2.1 (i * 5 + 2) se s.2.2.2.2.2.1 si = zup s.2.2.1 (i * 5 + 2) (spP (s.2.2.1 (i * 5 + 2)) se s.2.2.2.2.2.1 si) := if_neg (by omega)
    rw [spR, spI, u2, g5, spC, if_neg (show ¬ s.2.2.1 (i * 5 + 2) = 100 by omega)] at hR
    refine wa_iload_n (pc' := 5) dX10_spells_4 rfl rfl rfl ?_
    refine wa_aload_n (pc' := 6) dX10_spells_5 rfl rfl rfl ?_
    refine wa_getfield (pc' := 9) (j := 0) zc_X10 lk_X10_7 dX10_spells_6 rfl (by decide) rfl rfl ?_
    refine wa_iconst (pc' := 10) dX10_spells_9 rfl ?_
    refine wa_iaload (pc' := 11) dX10_spells_10 rfl rfl (by omega) (by omega) (by decide) ?_
    refine wa_icmp_ge (tgt := 113) (pc' := 14) dX10_spells_11 (by decide) rfl (by omega) (by omega) (fun c11 => ?_) (fun c11 => ?_)
    · exact absurd c11 (by omega)
    · refine wa_iconst (pc' := 15) dX10_spells_14 rfl ?_
      refine wa_istore (pc' := 17) (ls' := [(4, _), (3, _), (2, _), (0, _), (1, _)]) dX10_spells_15 rfl (by decide) rfl ?_
      refine wa_iload (pc' := 19) dX10_spells_17 rfl rfl ?_
      refine wa_iconst (pc' := 20) dX10_spells_19 rfl ?_
      refine wa_icmp_gt (tgt := 107) (pc' := 23) dX10_spells_20 (by decide) rfl (by omega) (by omega) (fun c20 => ?_) (fun c20 => ?_)
      · exact absurd c20 (by omega)
      · refine wa_aload_n (pc' := 24) dX10_spells_23 rfl rfl rfl ?_
        refine wa_getfield (pc' := 27) (j := 0) zc_X10 lk_X10_7 dX10_spells_24 rfl (by decide) rfl rfl ?_
        refine wa_iload_n (pc' := 28) dX10_spells_27 rfl rfl rfl ?_
        refine wa_dS (pc' := 31) (w' := [_, _, _, _, _, _, _, _, _, _]) (k_X10_chord i (by omega)) ok_X10_chord lm_X10_94 dX10_spells_28 rfl [] rfl (by decide) rfl rfl (by decide) (Nat.le_of_ble_eq_true rfl) rfl (by decide) (by decide) rfl rfl rfl ?_
        refine wa_iload (pc' := 33) dX10_spells_31 rfl rfl ?_
        refine wa_iadd (pc' := 34) dX10_spells_33 rfl ?_
        refine wa_iaload (pc' := 35) dX10_spells_34 rfl rfl (by omega) (by omega) (by decide) ?_
        rw [f2]
        refine wa_istore (pc' := 37) (ls' := [(5, _), (4, _), (3, _), (2, _), (0, _), (1, _)]) dX10_spells_35 rfl (by decide) rfl ?_
        refine wa_iload (pc' := 39) dX10_spells_37 rfl rfl ?_
        refine wa_iconst (pc' := 40) dX10_spells_39 rfl ?_
        refine wa_icmp_eq (tgt := 50) (pc' := 43) dX10_spells_40 (by decide) rfl (by omega) (by omega) (fun c40 => ?_) (fun c40 => ?_)
        · refine wa_aload_n (pc' := 51) dX10_spells_50 rfl rfl rfl ?_
          refine wa_getfield (pc' := 54) (j := 0) zc_X10 lk_X10_7 dX10_spells_51 rfl (by decide) rfl rfl ?_
          refine wa_iload_n (pc' := 55) dX10_spells_54 rfl rfl rfl ?_
          refine wa_dS (pc' := 58) (w' := [_, _, _, _, _, _, _, _, _, _]) (k_X10_chord i (by omega)) ok_X10_chord lm_X10_94 dX10_spells_55 rfl [] rfl (by decide) rfl rfl (by decide) (Nat.le_of_ble_eq_true rfl) rfl (by decide) (by decide) rfl rfl rfl ?_
          refine wa_iload (pc' := 60) dX10_spells_58 rfl rfl ?_
          refine wa_iadd (pc' := 61) dX10_spells_60 rfl ?_
          refine wa_aload_n (pc' := 62) dX10_spells_61 rfl rfl rfl ?_
          refine wa_iload (pc' := 64) dX10_spells_62 rfl rfl ?_
          refine wa_dS (pc' := 67) (w' := [_, _, _, _, _, _, _, _, _, _]) (k_X10_pitch (s.2.2.1 (i * 5 + 2)) (by omega)) ok_X10_pitch lm_X10_161 dX10_spells_64 rfl [] rfl (by decide) rfl rfl (by decide) (Nat.le_of_ble_eq_true rfl) rfl (by decide) (by decide) rfl rfl rfl ?_
          refine wa_iload_n (pc' := 68) dX10_spells_67 rfl rfl rfl ?_
          refine wa_iadd (pc' := 69) dX10_spells_68 rfl ?_
          refine wa_dS (pc' := 72) (w' := [_, _, _, _, _, _, _, _, _, _]) (k_X10_mod12 (pcl (s.2.2.1 (i * 5 + 2)) + se) (by omega)) ok_X10_mod12 lm_X10_52 dX10_spells_69 rfl [] rfl (by decide) rfl rfl (by decide) (Nat.le_of_ble_eq_true rfl) rfl (by decide) (by decide) rfl rfl rfl ?_
          refine wa_rI2 (pc' := 75) (st := [_, _]) (k_X10_spelled s _ _ _ _ _ _ _ _ _ _ _ _ _ _ _ _ _ _ _ _ _ _ ((pcl (s.2.2.1 (i * 5 + 2)) + se) % 12) hs hv (by omega) hsi) ok_X10_spelled lm_X10_188 dX10_spells_72 rfl (wM_ok _ _ _ _ _ _ _ _ _ _ _ _ _ _ _ _ _ _ _ _ _ _) rfl rfl (Nat.le_of_ble_eq_true rfl) rfl rfl rfl rfl (by decide) (Nat.le_of_ble_eq_true rfl) rfl (by decide) (by decide) rfl rfl ?_
          rw [m2, e2]
          refine wa_iastore (pc' := 76) (w' := [_, zA _ _ _, _, _, _, _, _, _, _, _]) dX10_spells_75 rfl rfl (by omega) (by omega) (by decide) rfl ?_
          refine wa_iload_n (pc' := 77) dX10_spells_76 rfl rfl rfl ?_
          refine wa_join (J := 99) (P := fun x => x = 0 ∧ spP (s.2.2.1 (i * 5 + 2)) se s.2.2.2.2.2.1 si = s.2.2.1 (i * 5 + 2) ∨ x = 1 ∧ ¬ spP (s.2.2.1 (i * 5 + 2)) se s.2.2.2.2.2.1 si = s.2.2.1 (i * 5 + 2)) (fun x99 e99 => ?_) (fun K99 => ?_)
          · refine wa_iadd (pc' := 100) dX10_spells_99 rfl ?_
            refine wa_istore_n (pc' := 101) (ls' := [(2, _), (5, _), (4, _), (3, _), (0, _), (1, _)]) dX10_spells_100 rfl rfl (by decide) rfl ?_
            refine wa_iinc (pc' := 104) (ls' := [(4, _), (2, _), (5, _), (3, _), (0, _), (1, _)]) dX10_spells_101 rfl rfl (by decide) rfl ?_
            refine wa_goto (pc' := 17) dX10_spells_104 (by decide) ?_
            refine wa_sub [0, 3, 1, 4, 5] rfl ?_
            rw [show (2 : Int) + 2 = 4 from rfl]
            have q2 : (if spP (s.2.2.1 (i * 5 + 2)) se s.2.2.2.2.2.1 si = s.2.2.1 (i * 5 + 2) then (0 : Int) else 1) = x99 := by split <;> omega
            rw [q2] at hR
            refine wa_iload (pc' := 19) dX10_spells_17 rfl rfl ?_
            refine wa_iconst (pc' := 20) dX10_spells_19 rfl ?_
            refine wa_icmp_gt (tgt := 107) (pc' := 23) dX10_spells_20 (by decide) rfl (by omega) (by omega) (fun c20 => ?_) (fun c20 => ?_)
            · exact absurd c20 (by omega)
            · refine wa_aload_n (pc' := 24) dX10_spells_23 rfl rfl rfl ?_
              refine wa_getfield (pc' := 27) (j := 0) zc_X10 lk_X10_7 dX10_spells_24 rfl (by decide) rfl rfl ?_
              refine wa_iload_n (pc' := 28) dX10_spells_27 rfl rfl rfl ?_
              refine wa_dS (pc' := 31) (w' := [_, _, _, _, _, _, _, _, _, _]) (k_X10_chord i (by omega)) ok_X10_chord lm_X10_94 dX10_spells_28 rfl [] rfl (by decide) rfl rfl (by decide) (Nat.le_of_ble_eq_true rfl) rfl (by decide) (by decide) rfl rfl rfl ?_
              refine wa_iload (pc' := 33) dX10_spells_31 rfl rfl ?_
              refine wa_iadd (pc' := 34) dX10_spells_33 rfl ?_
              refine wa_iaload (pc' := 35) dX10_spells_34 rfl rfl (by omega) (by omega) (by decide) ?_
              rw [g4]
              refine wa_istore (pc' := 37) (ls' := [(5, _), (4, _), (3, _), (2, _), (0, _), (1, _)]) dX10_spells_35 rfl (by decide) rfl ?_
              refine wa_iload (pc' := 39) dX10_spells_37 rfl rfl ?_
              refine wa_iconst (pc' := 40) dX10_spells_39 rfl ?_
              refine wa_icmp_eq (tgt := 50) (pc' := 43) dX10_spells_40 (by decide) rfl (by omega) (by omega) (fun c40 => ?_) (fun c40 => ?_)
              · exact absurd c40 (by decide)
              · refine wa_iload (pc' := 45) dX10_spells_43 rfl rfl ?_
                refine wa_bipush (pc' := 47) dX10_spells_45 rfl rfl ?_
                refine wa_icmp_eq (tgt := 101) (pc' := 50) dX10_spells_47 (by decide) rfl (by omega) (by omega) (fun c47 => ?_) (fun c47 => ?_)
                · rw [spC, spU, g5, if_pos c47, if_pos c47] at hR
                  refine wa_iinc (pc' := 104) (ls' := [(4, _), (5, _), (3, _), (2, _), (0, _), (1, _)]) dX10_spells_101 rfl rfl (by decide) rfl ?_
                  refine wa_goto (pc' := 17) dX10_spells_104 (by decide) ?_
                  refine wa_sub [0, 2, 3, 4, 5] rfl ?_
                  refine wa_iload (pc' := 19) dX10_spells_17 rfl rfl ?_
                  refine wa_iconst (pc' := 20) dX10_spells_19 rfl ?_
                  refine wa_icmp_gt (tgt := 107) (pc' := 23) dX10_spells_20 (by decide) rfl (by omega) (by omega) (fun c20 => ?_) (fun c20 => ?_)
                  · refine wa_iinc (pc' := 110) (ls' := [(3, _), (4, _), (2, _), (0, _), (1, _)]) dX10_spells_107 rfl rfl (by decide) rfl ?_
                    refine wa_goto (pc' := 4) dX10_spells_110 (by decide) ?_
                    refine wa_sub [0, 2, 3, 4] rfl ?_
                    exact ih (i + 1) _ _ _ s1 w1 (by rw [← h9]) (by omega) (by show _ = s.2.2.2.2.1; omega) (by rw [Int.add_zero] at hR; exact hR)
                  · exact absurd c20 (by decide)
                · rw [spC, spU, g5, if_neg c47, if_neg c47] at hR
                  have s2 := okW_up s1 (i := i) (f := 4) (x := spP (s.2.2.1 (i * 5 + 4)) se s.2.2.2.2.2.1 si) (by show 0 ≤ i ∧ i < s.2.2.2.2.1; omega) (Or.inr (Or.inr ⟨rfl, Or.inr bx4⟩))
                  have w2 := Vr_up w1 (i := i) (f := 4) (by show 0 ≤ i ∧ i < s.2.2.2.2.1; omega) (by show s.2.2.2.2.1 ≤ 40; omega) (by omega) (spP (s.2.2.1 (i * 5 + 4)) se s.2.2.2.2.2.1 si) (by show s.2.2.2.1 ≤ 201; omega)
                  refine wa_aload_n (pc' := 51) dX10_spells_50 rfl rfl rfl ?_
                  refine wa_getfield (pc' := 54) (j := 0) zc_X10 lk_X10_7 dX10_spells_51 rfl (by decide) rfl rfl ?_
                  refine wa_iload_n (pc' := 55) dX10_spells_54 rfl rfl rfl ?_
                  refine wa_dS (pc' := 58) (w' := [_, _, _, _, _, _, _, _, _, _]) (k_X10_chord i (by omega)) ok_X10_chord lm_X10_94 dX10_spells_55 rfl [] rfl (by decide) rfl rfl (by decide) (Nat.le_of_ble_eq_true rfl) rfl (by decide) (by decide) rfl rfl rfl ?_
                  refine wa_iload (pc' := 60) dX10_spells_58 rfl rfl ?_
                  refine wa_iadd (pc' := 61) dX10_spells_60 rfl ?_
                  refine wa_aload_n (pc' := 62) dX10_spells_61 rfl rfl rfl ?_
                  refine wa_iload (pc' := 64) dX10_spells_62 rfl rfl ?_
                  refine wa_dS (pc' := 67) (w' := [_, _, _, _, _, _, _, _, _, _]) (k_X10_pitch (s.2.2.1 (i * 5 + 4)) (by omega)) ok_X10_pitch lm_X10_161 dX10_spells_64 rfl [] rfl (by decide) rfl rfl (by decide) (Nat.le_of_ble_eq_true rfl) rfl (by decide) (by decide) rfl rfl rfl ?_
                  refine wa_iload_n (pc' := 68) dX10_spells_67 rfl rfl rfl ?_
                  refine wa_iadd (pc' := 69) dX10_spells_68 rfl ?_
                  refine wa_dS (pc' := 72) (w' := [_, _, _, _, _, _, _, _, _, _]) (k_X10_mod12 (pcl (s.2.2.1 (i * 5 + 4)) + se) (by omega)) ok_X10_mod12 lm_X10_52 dX10_spells_69 rfl [] rfl (by decide) rfl rfl (by decide) (Nat.le_of_ble_eq_true rfl) rfl (by decide) (by decide) rfl rfl rfl ?_
                  refine wa_rI2 (pc' := 75) (st := [_, _]) (k_X10_spelled (sF s (zup s.2.2.1 (i * 5 + 2) (spP (s.2.2.1 (i * 5 + 2)) se s.2.2.2.2.2.1 si))) _ _ _ _ _ _ _ _ _ _ _ _ _ _ _ _ _ _ _ _ _ _ ((pcl (s.2.2.1 (i * 5 + 4)) + se) % 12) s1 w1 (by omega) hsi) ok_X10_spelled lm_X10_188 dX10_spells_72 rfl (wM_ok _ _ _ _ _ _ _ _ _ _ _ _ _ _ _ _ _ _ _ _ _ _) rfl rfl (Nat.le_of_ble_eq_true rfl) rfl rfl rfl rfl (by decide) (Nat.le_of_ble_eq_true rfl) rfl (by decide) (by decide) rfl rfl ?_
                  show Wa _ _ _ _ _ _ _ _ (zI (spl ((pcl (s.2.2.1 (i * 5 + 4)) + se) % 12) s.2.2.2.2.2.1 si) :: _) _ _ _
                  rw [m4, e4]
                  refine wa_iastore (pc' := 76) (w' := [_, zA _ _ _, _, _, _, _, _, _, _, _]) dX10_spells_75 rfl rfl (by omega) (by omega) (by decide) rfl ?_
                  refine wa_iload_n (pc' := 77) dX10_spells_76 rfl rfl rfl ?_
                  refine wa_join (J := 99) (P := fun x => x = 0 ∧ spP (s.2.2.1 (i * 5 + 4)) se s.2.2.2.2.2.1 si = s.2.2.1 (i * 5 + 4) ∨ x = 1 ∧ ¬ spP (s.2.2.1 (i * 5 + 4)) se s.2.2.2.2.2.1 si = s.2.2.1 (i * 5 + 4)) (fun x99 e99 => ?_) (fun K99 => ?_)
                  · refine wa_iadd (pc' := 100) dX10_spells_99 rfl ?_
                    refine wa_istore_n (pc' := 101) (ls' := [(2, _), (5, _), (4, _), (3, _), (0, _), (1, _)]) dX10_spells_100 rfl rfl (by decide) rfl ?_
                    refine wa_iinc (pc' := 104) (ls' := [(4, _), (2, _), (5, _), (3, _), (0, _), (1, _)]) dX10_spells_101 rfl rfl (by decide) rfl ?_
                    refine wa_goto (pc' := 17) dX10_spells_104 (by decide) ?_
                    refine wa_sub [0, 3, 1, 4, 5] rfl ?_
                    refine wa_iload (pc' := 19) dX10_spells_17 rfl rfl ?_
                    refine wa_iconst (pc' := 20) dX10_spells_19 rfl ?_
                    refine wa_icmp_gt (tgt := 107) (pc' := 23) dX10_spells_20 (by decide) rfl (by omega) (by omega) (fun c20 => ?_) (fun c20 => ?_)
                    · refine wa_iinc (pc' := 110) (ls' := [(3, _), (4, _), (2, _), (0, _), (1, _)]) dX10_spells_107 rfl rfl (by decide) rfl ?_
                      refine wa_goto (pc' := 4) dX10_spells_110 (by decide) ?_
                      refine wa_sub [0, 2, 3, 4] rfl ?_
                      have q4 : (if spP (s.2.2.1 (i * 5 + 4)) se s.2.2.2.2.2.1 si = s.2.2.1 (i * 5 + 4) then (0 : Int) else 1) = x99 := by split <;> omega
                      rw [q4] at hR
                      exact ih (i + 1) _ _ _ s2 w2 (by rw [← h9]) (by omega) (by show _ = s.2.2.2.2.1; omega) hR
                    · exact absurd c20 (by decide)
                  · refine wa_aload_n (pc' := 78) dX10_spells_77 rfl rfl rfl ?_
                    refine wa_getfield (pc' := 81) (j := 0) zc_X10 lk_X10_7 dX10_spells_78 rfl (by decide) rfl rfl ?_
                    refine wa_iload_n (pc' := 82) dX10_spells_81 rfl rfl rfl ?_
                    refine wa_dS (pc' := 85) (w' := [_, _, _, _, _, _, _, _, _, _]) (k_X10_chord i (by omega)) ok_X10_chord lm_X10_94 dX10_spells_82 rfl [] rfl (by decide) rfl rfl (by decide) (Nat.le_of_ble_eq_true rfl) rfl (by decide) (by decide) rfl rfl rfl ?_
                    refine wa_iload (pc' := 87) dX10_spells_85 rfl rfl ?_
                    refine wa_iadd (pc' := 88) dX10_spells_87 rfl ?_
                    refine wa_iaload (pc' := 89) dX10_spells_88 rfl rfl (by omega) (by omega) (by decide) ?_
                    rw [zup9_eq]
                    refine wa_iload (pc' := 91) dX10_spells_89 rfl rfl ?_
                    refine wa_icmp_eq (tgt := 98) (pc' := 94) dX10_spells_91 (by decide) rfl (by omega) (by omega) (fun c91 => ?_) (fun c91 => ?_)
                    · refine wa_iconst (pc' := 99) dX10_spells_98 rfl ?_
                      exact K99 _ (by show _ ∨ _; omega)
                    · refine wa_iconst (pc' := 95) dX10_spells_94 rfl ?_
                      refine wa_goto (pc' := 99) dX10_spells_95 (by decide) ?_
                      exact K99 _ (by show _ ∨ _; omega)
          · refine wa_aload_n (pc' := 78) dX10_spells_77 rfl rfl rfl ?_
            refine wa_getfield (pc' := 81) (j := 0) zc_X10 lk_X10_7 dX10_spells_78 rfl (by decide) rfl rfl ?_
            refine wa_iload_n (pc' := 82) dX10_spells_81 rfl rfl rfl ?_
            refine wa_dS (pc' := 85) (w' := [_, _, _, _, _, _, _, _, _, _]) (k_X10_chord i (by omega)) ok_X10_chord lm_X10_94 dX10_spells_82 rfl [] rfl (by decide) rfl rfl (by decide) (Nat.le_of_ble_eq_true rfl) rfl (by decide) (by decide) rfl rfl rfl ?_
            refine wa_iload (pc' := 87) dX10_spells_85 rfl rfl ?_
            refine wa_iadd (pc' := 88) dX10_spells_87 rfl ?_
            refine wa_iaload (pc' := 89) dX10_spells_88 rfl rfl (by omega) (by omega) (by decide) ?_
            rw [zup9_eq]
            refine wa_iload (pc' := 91) dX10_spells_89 rfl rfl ?_
            refine wa_icmp_eq (tgt := 98) (pc' := 94) dX10_spells_91 (by decide) rfl (by omega) (by omega) (fun c91 => ?_) (fun c91 => ?_)
            · refine wa_iconst (pc' := 99) dX10_spells_98 rfl ?_
              exact K99 _ (by show _ ∨ _; omega)
            · refine wa_iconst (pc' := 95) dX10_spells_94 rfl ?_
              refine wa_goto (pc' := 99) dX10_spells_95 (by decide) ?_
              exact K99 _ (by show _ ∨ _; omega)
        · exact absurd rfl c40


set_option maxRecDepth 10000 in
set_option maxHeartbeats 1000000 in
theorem k_X10_spells (s : zSh) (v pa : Int → Int) (sn : Int) (tx : Int → Int) (ty si fl wi th ap nt rr rq rb wh : Int) (md na : Int → Int) (nd : Int) (up lo : Int → Int) (us lw : Int) (se : Int) (hs : okW s) (hv : Vr s v) (hse : -11 ≤ se ∧ se ≤ 11) (hsi : si = 0 ∨ si = 1) : zMet q_X10_spells 3 0 0 [zR 0, zI se] (wM v pa sn tx ty si fl wi th ap nt rr rq rb wh md na nd up lo us lw) (fun o w' => ∃ x : Int → Int, (Vr (sF s (spR se s.2.2.2.2.2.1 si s.2.2.2.2.1.toNat 0 0 s.2.2.1).2) x ∧ okW (sF s (spR se s.2.2.2.2.2.1 si s.2.2.2.2.1.toNat 0 0 s.2.2.1).2)) ∧ o = .inl (some (zI (spR se s.2.2.2.2.2.1 si s.2.2.2.2.1.toNat 0 0 s.2.2.1).1)) ∧ w' = (wM x pa sn tx ty si fl wi th ap nt rr rq rb wh md na nd up lo us lw)) := by
  refine z_introF (ls := [(0, _), (1, _)]) (by decide +kernel) rfl (fun _ _ => rfl) (fun _ _ => Nat.le_of_ble_eq_true rfl) ?_
  obtain ⟨v0, v1, v2, v3, vT, vF, vL⟩ := id hv
  have hz := hs.1
  obtain ⟨z1, z2, zT1, z4, zF1, zL1⟩ := id hz.1
  have zNm := hz.2.1
  have zg := hz.2.2.1
  have zm := hz.2.2.2.1
  have zln := hz.2.2.2.2
  have vS := Vr_sg hv zm
  have zQ1 := fun i h1 h2 => (zNm i h1 h2).2.1
  refine wa_iconst (pc' := 1) dX10_spells_0 rfl ?_
  refine wa_istore_n (pc' := 2) (ls' := [(2, _), (0, _), (1, _)]) dX10_spells_1 rfl rfl (by decide) rfl ?_
  refine wa_iconst (pc' := 3) dX10_spells_2 rfl ?_
  refine wa_istore_n (pc' := 4) (ls' := [(3, _), (2, _), (0, _), (1, _)]) dX10_spells_3 rfl rfl (by decide) rfl ?_
  exact l_spells s _ _ _ _ _ _ _ _ _ _ _ _ _ _ _ _ _ _ _ _ _ se hse hsi (spR se s.2.2.2.2.2.1 si s.2.2.2.2.1.toNat 0 0 s.2.2.1) s.2.2.2.2.1.toNat 0 0 s v hs hv rfl (by omega) (by omega) rfl

def tbR (mn pt fl : Int) : Nat → Int → Int → Int
  | 0, _, b => b
  | m + 1, k, b => tbR mn pt fl m (k + 1) (if pcl (sgk k + 3 * mn) = pt ∧ (b = 100 ∨ (sgk k = -6 ∧ b = 6 ∧ fl = 1)) then sgk k else b)
theorem tbR_all : (List.range 2).all (fun mn => (List.range 12).all fun pt => (List.range 2).all fun fl => decide (tbR mn pt fl 13 0 100 = smS pt mn fl)) = true := by decide +kernel
theorem tbR_e {mn pt fl : Int} (hm : mn = 0 ∨ mn = 1) (hp : 0 ≤ pt ∧ pt < 12) (hf : fl = 0 ∨ fl = 1) : tbR mn pt fl 13 0 100 = smS pt mn fl := by
  have h1 := of_decide_eq_true (List.all_eq_true.mp (List.all_eq_true.mp (List.all_eq_true.mp tbR_all mn.toNat (List.mem_range.mpr (by omega))) pt.toNat (List.mem_range.mpr (by omega))) fl.toNat (List.mem_range.mpr (by omega)))
  rwa [show ((mn.toNat : Nat) : Int) = mn by omega, show ((pt.toNat : Nat) : Int) = pt by omega, show ((fl.toNat : Nat) : Int) = fl by omega] at h1
set_option maxRecDepth 10000 in
set_option maxHeartbeats 1000000 in
theorem l_trans (v pa : Int → Int) (sn : Int) (tx : Int → Int) (ty si fl wi th ap nt rr rq rb wh : Int) (md na : Int → Int) (nd : Int) (up lo : Int → Int) (us lw : Int) (se pt mn : Int) (hp : 0 ≤ pt ∧ pt < 12) (hmn : mn = 0 ∨ mn = 1) (hv3 : v 3 = mn) (hfl : fl = 0 ∨ fl = 1) {Post : zP → List zE → Prop} (R : Int) (kk : Wa q_X10_transpose 4 0 0 10 Post 159 [(3, zI R), (2, zI pt), (0, zR 0), (1, zI se)] [] (wM v pa sn tx ty si fl wi th ap nt rr rq rb wh md na nd up lo us lw) 0 0) : ∀ (m : Nat) (k b : Int), 0 ≤ k → k + m = 13 → (b = 100 ∨ (-6 ≤ b ∧ b ≤ 6)) → tbR mn pt fl m k b = R → Wa q_X10_transpose 4 0 0 10 Post 47 [(4, zI k), (3, zI b), (2, zI pt), (0, zR 0), (1, zI se)] [] (wM v pa sn tx ty si fl wi th ap nt rr rq rb wh md na nd up lo us lw) 0 0 := by
  intro m
  induction m with
  | zero =>
    intro k b h0 hm hb hR
    subst hR
    refine wa_iload (pc' := 49) dX10_transpose_47 rfl rfl ?_
    refine wa_bipush (pc' := 51) dX10_transpose_49 rfl rfl ?_
    refine wa_icmp_gt (tgt := 159) (pc' := 54) dX10_transpose_51 (by decide) rfl (by omega) (by omega) (fun c51 => ?_) (fun c51 => ?_)
    · refine wa_sub [1, 2, 3, 4] rfl ?_
      exact kk
    · exact absurd c51 (by omega)
  | succ m ih =>
    intro k b h0 hm hb hR
    have e1 := z_tmod_pos (a := k) (b := 2) (by omega)
    have e2 := z_tdiv_pos (a := k) (b := 2) (by omega)
    have e3 := sgk_b (k := k) (by omega)
    have hpb := pcl_b (sgk k + 3 * mn)
    rw [tbR] at hR
    refine wa_iload (pc' := 49) dX10_transpose_47 rfl rfl ?_
    refine wa_bipush (pc' := 51) dX10_transpose_49 rfl rfl ?_
    refine wa_icmp_gt (tgt := 159) (pc' := 54) dX10_transpose_51 (by decide) rfl (by omega) (by omega) (fun c51 => ?_) (fun c51 => ?_)
    · exact absurd c51 (by omega)
    · refine wa_join (J := 76) (P := fun x => x = sgk k) (fun x76 e76 => ?_) (fun K76 => ?_)
      · subst e76
        refine wa_istore (pc' := 78) (ls' := [(5, _), (4, _), (3, _), (2, _), (0, _), (1, _)]) dX10_transpose_76 rfl (by decide) rfl ?_
        refine wa_join (J := 101) (P := fun x => x = 1 ∧ (pcl (sgk k + 3 * mn) = pt) ∨ x = 0 ∧ ¬ (pcl (sgk k + 3 * mn) = pt)) (fun x101 e101 => ?_) (fun K101 => ?_)
        · refine wa_istore (pc' := 103) (ls' := [(6, _), (5, _), (4, _), (3, _), (2, _), (0, _), (1, _)]) dX10_transpose_101 rfl (by decide) rfl ?_
          refine wa_join (J := 134) (P := fun x => x = 1 ∧ (b = 100 ∨ (sgk k = -6 ∧ b = 6 ∧ fl = 1)) ∨ x = 0 ∧ ¬ (b = 100 ∨ (sgk k = -6 ∧ b = 6 ∧ fl = 1))) (fun x134 e134 => ?_) (fun K134 => ?_)
          · refine wa_istore (pc' := 136) (ls' := [(7, _), (6, _), (5, _), (4, _), (3, _), (2, _), (0, _), (1, _)]) dX10_transpose_134 rfl (by decide) rfl ?_
            refine wa_join (J := 152) (P := fun x => x = if pcl (sgk k + 3 * mn) = pt ∧ (b = 100 ∨ (sgk k = -6 ∧ b = 6 ∧ fl = 1)) then sgk k else b) (fun x152 e152 => ?_) (fun K152 => ?_)
            · refine wa_istore_n (pc' := 153) (ls' := [(3, _), (7, _), (6, _), (5, _), (4, _), (2, _), (0, _), (1, _)]) dX10_transpose_152 rfl rfl (by decide) rfl ?_
              refine wa_iinc (pc' := 156) (ls' := [(4, _), (3, _), (7, _), (6, _), (5, _), (2, _), (0, _), (1, _)]) dX10_transpose_153 rfl rfl (by decide) rfl ?_
              refine wa_goto (pc' := 47) dX10_transpose_156 (by decide) ?_
              refine wa_sub [0, 1, 5, 6, 7] rfl ?_
              rw [← e152] at hR
              exact ih (k + 1) x152 (by omega) (by omega) (by rw [e152]; split <;> omega) hR
            · refine wa_iload (pc' := 138) dX10_transpose_136 rfl rfl ?_
              refine wa_if_eq (tgt := 151) (pc' := 141) dX10_transpose_138 (by decide) rfl (by omega) (fun c138 => ?_) (fun c138 => ?_)
              · refine wa_iload_n (pc' := 152) dX10_transpose_151 rfl rfl rfl ?_
                exact K152 _ (by show _ = _; first | (exfalso; omega) | rw [if_pos (by omega)] | rw [if_neg (by omega)])
              · refine wa_iload (pc' := 143) dX10_transpose_141 rfl rfl ?_
                refine wa_if_eq (tgt := 151) (pc' := 146) dX10_transpose_143 (by decide) rfl (by omega) (fun c143 => ?_) (fun c143 => ?_)
                · refine wa_iload_n (pc' := 152) dX10_transpose_151 rfl rfl rfl ?_
                  exact K152 _ (by show _ = _; first | (exfalso; omega) | rw [if_pos (by omega)] | rw [if_neg (by omega)])
                · refine wa_iload (pc' := 148) dX10_transpose_146 rfl rfl ?_
                  refine wa_goto (pc' := 152) dX10_transpose_148 (by decide) ?_
                  exact K152 _ (by show _ = _; first | (exfalso; omega) | rw [if_pos (by omega)] | rw [if_neg (by omega)])
          · refine wa_iload_n (pc' := 104) dX10_transpose_103 rfl rfl rfl ?_
            refine wa_bipush (pc' := 106) dX10_transpose_104 rfl rfl ?_
            refine wa_icmp_eq (tgt := 129) (pc' := 109) dX10_transpose_106 (by decide) rfl (by omega) (by omega) (fun c106 => ?_) (fun c106 => ?_)
            · refine wa_iconst (pc' := 130) dX10_transpose_129 rfl ?_
              refine wa_goto (pc' := 134) dX10_transpose_130 (by decide) ?_
              exact K134 _ (by show _ ∨ _; omega)
            · refine wa_iload (pc' := 111) dX10_transpose_109 rfl rfl ?_
              refine wa_bipush (pc' := 113) dX10_transpose_111 rfl rfl ?_
              refine wa_icmp_ne (tgt := 133) (pc' := 116) dX10_transpose_113 (by decide) rfl (by omega) (by omega) (fun c113 => ?_) (fun c113 => ?_)
              · refine wa_iconst (pc' := 134) dX10_transpose_133 rfl ?_
                exact K134 _ (by show _ ∨ _; omega)
              · refine wa_iload_n (pc' := 117) dX10_transpose_116 rfl rfl rfl ?_
                refine wa_bipush (pc' := 119) dX10_transpose_117 rfl rfl ?_
                refine wa_icmp_ne (tgt := 133) (pc' := 122) dX10_transpose_119 (by decide) rfl (by omega) (by omega) (fun c119 => ?_) (fun c119 => ?_)
                · refine wa_iconst (pc' := 134) dX10_transpose_133 rfl ?_
                  exact K134 _ (by show _ ∨ _; omega)
                · refine wa_aload_n (pc' := 123) dX10_transpose_122 rfl rfl rfl ?_
                  refine wa_getfield (pc' := 126) (j := 6) zc_X10 lk_X10_114 dX10_transpose_123 rfl (by decide) rfl rfl ?_
                  refine wa_if_eq (tgt := 133) (pc' := 129) dX10_transpose_126 (by decide) rfl (by omega) (fun c126 => ?_) (fun c126 => ?_)
                  · refine wa_iconst (pc' := 134) dX10_transpose_133 rfl ?_
                    exact K134 _ (by show _ ∨ _; omega)
                  · refine wa_iconst (pc' := 130) dX10_transpose_129 rfl ?_
                    refine wa_goto (pc' := 134) dX10_transpose_130 (by decide) ?_
                    exact K134 _ (by show _ ∨ _; omega)
        · refine wa_iload (pc' := 80) dX10_transpose_78 rfl rfl ?_
          refine wa_iconst (pc' := 81) dX10_transpose_80 rfl ?_
          refine wa_aload_n (pc' := 82) dX10_transpose_81 rfl rfl rfl ?_
          refine wa_getfield (pc' := 85) (j := 0) zc_X10 lk_X10_7 dX10_transpose_82 rfl (by decide) rfl rfl ?_
          refine wa_iconst (pc' := 86) dX10_transpose_85 rfl ?_
          refine wa_iaload (pc' := 87) dX10_transpose_86 rfl rfl (by omega) (by omega) (by decide) ?_
          rw [hv3]
          refine wa_imul (pc' := 88) dX10_transpose_87 rfl ?_
          refine wa_iadd (pc' := 89) dX10_transpose_88 rfl ?_
          refine wa_dS (pc' := 92) (w' := [_, _, _, _, _, _, _, _, _, _]) (k_X10_pitch (sgk k + 3 * mn) (by omega)) ok_X10_pitch lm_X10_161 dX10_transpose_89 rfl [] rfl (by decide) rfl rfl (by decide) (Nat.le_of_ble_eq_true rfl) rfl (by decide) (by decide) rfl rfl rfl ?_
          refine wa_iload_n (pc' := 93) dX10_transpose_92 rfl rfl rfl ?_
          refine wa_icmp_ne (tgt := 100) (pc' := 96) dX10_transpose_93 (by decide) rfl (by omega) (by omega) (fun c93 => ?_) (fun c93 => ?_)
          · refine wa_iconst (pc' := 101) dX10_transpose_100 rfl ?_
            exact K101 _ (by show _ ∨ _; omega)
          · refine wa_iconst (pc' := 97) dX10_transpose_96 rfl ?_
            refine wa_goto (pc' := 101) dX10_transpose_97 (by decide) ?_
            exact K101 _ (by show _ ∨ _; omega)
      · refine wa_iload (pc' := 56) dX10_transpose_54 rfl rfl ?_
        refine wa_iconst (pc' := 57) dX10_transpose_56 rfl ?_
        refine wa_irem (pc' := 58) dX10_transpose_57 rfl (by omega) (by omega) (by omega) (z_tdiv (by omega) (by omega)) ?_
        refine wa_iconst (pc' := 59) dX10_transpose_58 rfl ?_
        refine wa_icmp_ne (tgt := 71) (pc' := 62) dX10_transpose_59 (by decide) rfl (by omega) (by omega) (fun c59 => ?_) (fun c59 => ?_)
        · refine wa_iload (pc' := 73) dX10_transpose_71 rfl rfl ?_
          refine wa_iconst (pc' := 74) dX10_transpose_73 rfl ?_
          refine wa_idiv (pc' := 75) dX10_transpose_74 rfl (by omega) (by omega) (by omega) (by rw [e2]; omega) ?_
          refine wa_ineg (pc' := 76) dX10_transpose_75 rfl ?_
          exact K76 _ (by show _ = _; rw [e2, sgk]; first | (exfalso; omega) | rw [if_pos (by omega)] | rw [if_neg (by omega)])
        · refine wa_iload (pc' := 64) dX10_transpose_62 rfl rfl ?_
          refine wa_iconst (pc' := 65) dX10_transpose_64 rfl ?_
          refine wa_idiv (pc' := 66) dX10_transpose_65 rfl (by omega) (by omega) (by omega) (by rw [e2]; omega) ?_
          refine wa_iconst (pc' := 67) dX10_transpose_66 rfl ?_
          refine wa_iadd (pc' := 68) dX10_transpose_67 rfl ?_
          refine wa_goto (pc' := 76) dX10_transpose_68 (by decide) ?_
          exact K76 _ (by show _ = _; rw [e2, sgk]; first | (exfalso; omega) | rw [if_pos (by omega)] | rw [if_neg (by omega)])

abbrev sK (s : zSh) (sg mn : Int) : zSh := (s.1, s.2.1, s.2.2.1, s.2.2.2.1, s.2.2.2.2.1, sg, mn)
theorem okW_key {s : zSh} (h : okW s) {sg mn : Int} (hs : -6 ≤ sg ∧ sg ≤ 6) (hm : mn = 0 ∨ mn = 1) : okW (sK s sg mn) := ⟨⟨h.1.1, h.1.2.1, hs, hm, h.1.2.2.2.2⟩, h.2⟩
theorem Vr_key {s : zSh} {v : Int → Int} (h : Vr s v) (hz : s.2.2.2.1 ≤ 201) (sg mn x : Int) (hx : x = tonO sg mn) : Vr (sK s sg mn) (zup (zup v 2 x) 3 mn) := by
  obtain ⟨h0, h1, h2, h3, hT, hF, hL⟩ := h
  refine ⟨?_, ?_, ?_, zup9_eq, ?_, ?_, ?_⟩
  · rw [zup9_ne (by omega), zup9_ne (by omega)]; exact h0
  · rw [zup9_ne (by omega), zup9_ne (by omega)]; exact h1
  · rw [zup9_ne (by omega), zup9_eq]; exact hx
  · intro k k0 k1; rw [zup9_ne (by omega), zup9_ne (by omega)]; exact hT k k0 k1
  · intro k k0 k1; rw [zup9_ne (by omega), zup9_ne (by omega)]; exact hF k k0 k1
  · intro k k0 k1; rw [zup9_ne (by omega), zup9_ne (by omega)]; exact hL k k0 k1
theorem Vr_sg2 {s : zSh} {v : Int → Int} (h : Vr s v) (sg x : Int) (hx : x = tonO sg s.2.2.2.2.2.2) : Vr (sK s sg s.2.2.2.2.2.2) (zup v 2 x) := by
  obtain ⟨h0, h1, h2, h3, hT, hF, hL⟩ := h
  refine ⟨?_, ?_, ?_, ?_, ?_, ?_, ?_⟩
  · rw [zup9_ne (by omega)]; exact h0
  · rw [zup9_ne (by omega)]; exact h1
  · rw [zup9_eq]; exact hx
  · rw [zup9_ne (by omega)]; exact h3
  · intro k k0 k1; rw [zup9_ne (by omega)]; exact hT k k0 k1
  · intro k k0 k1; rw [zup9_ne (by omega)]; exact hF k k0 k1
  · intro k k0 k1; rw [zup9_ne (by omega)]; exact hL k k0 k1
set_option maxRecDepth 10000 in
set_option maxHeartbeats 1000000 in
theorem k_X10_respell (s : zSh) (v pa : Int → Int) (sn : Int) (tx : Int → Int) (ty si fl wi th ap nt rr rq rb wh : Int) (md na : Int → Int) (nd : Int) (up lo : Int → Int) (us lw : Int)  (hs : okW s) (hv : Vr s v) (hsn : 0 ≤ sn ∧ sn ≤ 8) (hsi : si = 0 ∨ si = 1) : zMet q_X10_respell 4 0 0 [zR 0] (wM v pa sn tx ty si fl wi th ap nt rr rq rb wh md na nd up lo us lw) (fun o w' => ∃ x : Int → Int, (Vr (sF s (spR 0 s.2.2.2.2.2.1 si s.2.2.2.2.1.toNat 0 0 s.2.2.1).2) x ∧ okW (sF s (spR 0 s.2.2.2.2.2.1 si s.2.2.2.2.1.toNat 0 0 s.2.2.1).2)) ∧ o = .inl (some (zI ((spR 0 s.2.2.2.2.2.1 si s.2.2.2.2.1.toNat 0 0 s.2.2.1).1))) ∧ w' = (wM x (actP v sn pa) (if sn = 8 then 8 else sn + 1) tx ty si fl wi 0 ap nt rr rq rb wh md na nd up lo us lw)) := by
  refine z_introF (ls := [(0, _)]) (by decide +kernel) rfl (fun _ _ => rfl) (fun _ _ => Nat.le_of_ble_eq_true rfl) ?_
  obtain ⟨v0, v1, v2, v3, vT, vF, vL⟩ := id hv
  have hz := hs.1
  obtain ⟨z1, z2, zT1, z4, zF1, zL1⟩ := id hz.1
  have zNm := hz.2.1
  have zg := hz.2.2.1
  have zm := hz.2.2.2.1
  have zln := hz.2.2.2.2
  have vS := Vr_sg hv zm
  have zQ1 := fun i h1 h2 => (zNm i h1 h2).2.1
  refine wa_aload_n (pc' := 1) dX10_respell_0 rfl rfl rfl ?_
  refine wa_iconst (pc' := 2) dX10_respell_1 rfl ?_
  refine wa_putfield (pc' := 5) (j := 8) (w' := [zO _ [_, _, _, _, _, _, _, _, _, _, _, _, _, _, _, _, _, _, _, _, _, _, _, _], _, _, _, _, _, _, _, _, _]) zc_X10 lk_X10_46 dX10_respell_2 rfl (by decide) rfl rfl (Nat.le_of_ble_eq_true rfl) True.intro rfl ?_
  refine wa_aload_n (pc' := 6) dX10_respell_5 rfl rfl rfl ?_
  refine wa_iD2 (pc' := 9) (st := []) (k_X10_acts _ _ _ _ _ _ _ _ _ _ _ _ _ _ _ _ _ _ _ _ _ _ (by omega) ) ok_X10_acts lm_X10_107 dX10_respell_6 rfl (wM_ok _ _ _ _ _ _ _ _ _ _ _ _ _ _ _ _ _ _ _ _ _ _) (Eq.refl 10) (wM_ok _ _ _ _ _ _ _ _ _ _ _ _ _ _ _ _ _ _ _ _ _ _) rfl rfl (Nat.le_of_ble_eq_true rfl) rfl rfl rfl rfl (by decide) (Nat.le_of_ble_eq_true rfl) rfl (by decide) (by decide) rfl rfl ?_
  show Wa _ _ _ _ _ _ _ _ [] _ _ _
  refine wa_aload_n (pc' := 10) dX10_respell_9 rfl rfl rfl ?_
  refine wa_iconst (pc' := 11) dX10_respell_10 rfl ?_
  refine wa_gI (pc' := 14) (st := []) (k_X10_spells s _ _ _ _ _ _ _ _ _ _ _ _ _ _ _ _ _ _ _ _ _ _ 0 hs hv (by omega) hsi) ok_X10_spells lm_X10_191 dX10_respell_11 rfl (wM_ok _ _ _ _ _ _ _ _ _ _ _ _ _ _ _ _ _ _ _ _ _ _ ) (fun _ => rfl) (fun _ => wM_ok _ _ _ _ _ _ _ _ _ _ _ _ _ _ _ _ _ _ _ _ _ _ ) rfl rfl (Nat.le_of_ble_eq_true rfl) rfl rfl rfl rfl (by decide) (Nat.le_of_ble_eq_true rfl) rfl (by decide) (by decide) rfl rfl (fun x9 hx9 => ?_)
  show Wa _ _ _ _ _ _ _ _ [_] _ _ _
  refine wa_iret dX10_respell_14 rfl (by decide) (by decide) ?_
  exact ⟨x9, hx9, rfl, rfl⟩

set_option maxRecDepth 10000 in
set_option maxHeartbeats 1000000 in
theorem k_X10_transpose0 (s : zSh) (v pa : Int → Int) (sn : Int) (tx : Int → Int) (ty si fl wi th ap nt rr rq rb wh : Int) (md na : Int → Int) (nd : Int) (up lo : Int → Int) (us lw : Int) (se : Int) (hs : okW s) (hv : Vr s v) (hse : zin se) (hc : ¬ (-11 ≤ se ∧ se ≤ 11)) : zMet q_X10_transpose 4 0 0 [zR 0, zI se] (wM v pa sn tx ty si fl wi th ap nt rr rq rb wh md na nd up lo us lw) (zD (some (zI (0))) (wM v pa sn tx ty si fl wi 1 ap nt rr rq rb wh md na nd up lo us lw)) := by
  refine z_introF (ls := [(0, _), (1, _)]) (by decide +kernel) rfl (fun _ _ => rfl) (fun _ _ => Nat.le_of_ble_eq_true rfl) ?_
  obtain ⟨v0, v1, v2, v3, vT, vF, vL⟩ := id hv
  have hz := hs.1
  obtain ⟨z1, z2, zT1, z4, zF1, zL1⟩ := id hz.1
  have zNm := hz.2.1
  have zg := hz.2.2.1
  have zm := hz.2.2.2.1
  have zln := hz.2.2.2.2
  have vS := Vr_sg hv zm
  have zQ1 := fun i h1 h2 => (zNm i h1 h2).2.1
  refine wa_aload_n (pc' := 1) dX10_transpose_0 rfl rfl rfl ?_
  refine wa_iconst (pc' := 2) dX10_transpose_1 rfl ?_
  refine wa_putfield (pc' := 5) (j := 8) (w' := [zO _ [_, _, _, _, _, _, _, _, _, _, _, _, _, _, _, _, _, _, _, _, _, _, _, _], _, _, _, _, _, _, _, _, _]) zc_X10 lk_X10_46 dX10_transpose_2 rfl (by decide) rfl rfl (Nat.le_of_ble_eq_true rfl) True.intro rfl ?_
  refine wa_iload_n (pc' := 6) dX10_transpose_5 rfl rfl rfl ?_
  refine wa_bipush (pc' := 8) dX10_transpose_6 rfl rfl ?_
  refine wa_bipush (pc' := 10) dX10_transpose_8 rfl rfl ?_
  refine wa_dS (pc' := 13) (w' := [_, _, _, _, _, _, _, _, _, _]) (k_X10_in _ _ _ (by omega) (by omega) (by omega) ) ok_X10_in lm_X10_97 dX10_transpose_10 rfl [] rfl (by decide) rfl rfl (by decide) (Nat.le_of_ble_eq_true rfl) rfl (by decide) (by decide) rfl rfl rfl ?_
  refine wa_if_ne (tgt := 22) (pc' := 16) dX10_transpose_13 (by decide) rfl (by split <;> omega) (fun c13 => ?_) (fun c13 => ?_)
  · exact absurd (ite1 c13) hc
  · refine wa_aload_n (pc' := 17) dX10_transpose_16 rfl rfl rfl ?_
    refine wa_iconst (pc' := 18) dX10_transpose_17 rfl ?_
    refine wa_iD2 (pc' := 21) (st := []) (k_X10_fails _ _ _ _ _ _ _ _ _ _ _ _ _ _ _ _ _ _ _ _ _ _ _ ) ok_X10_fails lm_X10_101 dX10_transpose_18 rfl (wM_ok _ _ _ _ _ _ _ _ _ _ _ _ _ _ _ _ _ _ _ _ _ _) (Eq.refl 10) (wM_ok _ _ _ _ _ _ _ _ _ _ _ _ _ _ _ _ _ _ _ _ _ _) rfl rfl (Nat.le_of_ble_eq_true rfl) rfl rfl rfl rfl (by decide) (Nat.le_of_ble_eq_true rfl) rfl (by decide) (by decide) rfl rfl ?_
    show Wa _ _ _ _ _ _ _ _ [_] _ _ _
    refine wa_iret dX10_transpose_21 rfl (by decide) (by decide) ?_
    first | (exfalso; omega) | exact zD_i rfl rfl

set_option maxRecDepth 10000 in
set_option maxHeartbeats 1000000 in
theorem k_X10_transpose1 (s : zSh) (v pa : Int → Int) (sn : Int) (tx : Int → Int) (ty si fl wi th ap nt rr rq rb wh : Int) (md na : Int → Int) (nd : Int) (up lo : Int → Int) (us lw : Int) (se : Int) (hs : okW s) (hv : Vr s v) (hsn : 0 ≤ sn ∧ sn ≤ 8) (hsi : si = 0 ∨ si = 1) (hfl : fl = 0 ∨ fl = 1) (hc : -11 ≤ se ∧ se ≤ 11) : zMet q_X10_transpose 4 0 0 [zR 0, zI se] (wM v pa sn tx ty si fl wi th ap nt rr rq rb wh md na nd up lo us lw) (fun o w' => ∃ x : Int → Int, (Vr (sF (sK s (smS ((7 * tonO s.2.2.2.2.2.1 s.2.2.2.2.2.2 + se) % 12) s.2.2.2.2.2.2 fl) s.2.2.2.2.2.2) (spR se (smS ((7 * tonO s.2.2.2.2.2.1 s.2.2.2.2.2.2 + se) % 12) s.2.2.2.2.2.2 fl) si s.2.2.2.2.1.toNat 0 0 s.2.2.1).2) x ∧ okW (sF (sK s (smS ((7 * tonO s.2.2.2.2.2.1 s.2.2.2.2.2.2 + se) % 12) s.2.2.2.2.2.2 fl) s.2.2.2.2.2.2) (spR se (smS ((7 * tonO s.2.2.2.2.2.1 s.2.2.2.2.2.2 + se) % 12) s.2.2.2.2.2.2 fl) si s.2.2.2.2.1.toNat 0 0 s.2.2.1).2)) ∧ o = .inl (some (zI ((smS ((7 * tonO s.2.2.2.2.2.1 s.2.2.2.2.2.2 + se) % 12) s.2.2.2.2.2.2 fl)))) ∧ w' = (wM x (actP v sn pa) (if sn = 8 then 8 else sn + 1) tx ty si fl wi 0 ap nt rr rq rb wh md na nd up lo us lw)) := by
  refine z_introF (ls := [(0, _), (1, _)]) (by decide +kernel) rfl (fun _ _ => rfl) (fun _ _ => Nat.le_of_ble_eq_true rfl) ?_
  obtain ⟨v0, v1, v2, v3, vT, vF, vL⟩ := id hv
  have hz := hs.1
  obtain ⟨z1, z2, zT1, z4, zF1, zL1⟩ := id hz.1
  have zNm := hz.2.1
  have zg := hz.2.2.1
  have zm := hz.2.2.2.1
  have zln := hz.2.2.2.2
  have vS := Vr_sg hv zm
  have zQ1 := fun i h1 h2 => (zNm i h1 h2).2.1
  have hT : -10 ≤ tonO s.2.2.2.2.2.1 s.2.2.2.2.2.2 ∧ tonO s.2.2.2.2.2.1 s.2.2.2.2.2.2 ≤ 10 := by unfold tonO; split <;> omega
  have hp := pcl_b (tonO s.2.2.2.2.2.1 s.2.2.2.2.2.2)
  have hpt : (pcl (tonO s.2.2.2.2.2.1 s.2.2.2.2.2.2) + se) % 12 = ((7 * tonO s.2.2.2.2.2.1 s.2.2.2.2.2.2 + se) % 12) := by unfold pcl; omega
  have hsm := smS_b (tp := ((7 * tonO s.2.2.2.2.2.1 s.2.2.2.2.2.2 + se) % 12)) (mn := s.2.2.2.2.2.2) (fl := fl) zm
  refine wa_aload_n (pc' := 1) dX10_transpose_0 rfl rfl rfl ?_
  refine wa_iconst (pc' := 2) dX10_transpose_1 rfl ?_
  refine wa_putfield (pc' := 5) (j := 8) (w' := [zO _ [_, _, _, _, _, _, _, _, _, _, _, _, _, _, _, _, _, _, _, _, _, _, _, _], _, _, _, _, _, _, _, _, _]) zc_X10 lk_X10_46 dX10_transpose_2 rfl (by decide) rfl rfl (Nat.le_of_ble_eq_true rfl) True.intro rfl ?_
  refine wa_iload_n (pc' := 6) dX10_transpose_5 rfl rfl rfl ?_
  refine wa_bipush (pc' := 8) dX10_transpose_6 rfl rfl ?_
  refine wa_bipush (pc' := 10) dX10_transpose_8 rfl rfl ?_
  refine wa_dS (pc' := 13) (w' := [_, _, _, _, _, _, _, _, _, _]) (k_X10_in _ _ _ (by omega) (by omega) (by omega) ) ok_X10_in lm_X10_97 dX10_transpose_10 rfl [] rfl (by decide) rfl rfl (by decide) (Nat.le_of_ble_eq_true rfl) rfl (by decide) (by decide) rfl rfl rfl ?_
  refine wa_if_ne (tgt := 22) (pc' := 16) dX10_transpose_13 (by decide) rfl (by split <;> omega) (fun c13 => ?_) (fun c13 => ?_)
  · refine wa_aload_n (pc' := 23) dX10_transpose_22 rfl rfl rfl ?_
    refine wa_iD2 (pc' := 26) (st := []) (k_X10_acts _ _ _ _ _ _ _ _ _ _ _ _ _ _ _ _ _ _ _ _ _ _ (by omega) ) ok_X10_acts lm_X10_107 dX10_transpose_23 rfl (wM_ok _ _ _ _ _ _ _ _ _ _ _ _ _ _ _ _ _ _ _ _ _ _) (Eq.refl 10) (wM_ok _ _ _ _ _ _ _ _ _ _ _ _ _ _ _ _ _ _ _ _ _ _) rfl rfl (Nat.le_of_ble_eq_true rfl) rfl rfl rfl rfl (by decide) (Nat.le_of_ble_eq_true rfl) rfl (by decide) (by decide) rfl rfl ?_
    show Wa _ _ _ _ _ _ _ _ [] _ _ _
    refine wa_aload_n (pc' := 27) dX10_transpose_26 rfl rfl rfl ?_
    refine wa_getfield (pc' := 30) (j := 0) zc_X10 lk_X10_7 dX10_transpose_27 rfl (by decide) rfl rfl ?_
    refine wa_iconst (pc' := 31) dX10_transpose_30 rfl ?_
    refine wa_iaload (pc' := 32) dX10_transpose_31 rfl rfl (by omega) (by omega) (by decide) ?_
    rw [v2]
    refine wa_dS (pc' := 35) (w' := [_, _, _, _, _, _, _, _, _, _]) (k_X10_pitch (tonO s.2.2.2.2.2.1 s.2.2.2.2.2.2) (by omega)) ok_X10_pitch lm_X10_161 dX10_transpose_32 rfl [] rfl (by decide) rfl rfl (by decide) (Nat.le_of_ble_eq_true rfl) rfl (by decide) (by decide) rfl rfl rfl ?_
    refine wa_iload_n (pc' := 36) dX10_transpose_35 rfl rfl rfl ?_
    refine wa_iadd (pc' := 37) dX10_transpose_36 rfl ?_
    refine wa_dS (pc' := 40) (w' := [_, _, _, _, _, _, _, _, _, _]) (k_X10_mod12 (pcl (tonO s.2.2.2.2.2.1 s.2.2.2.2.2.2) + se) (by omega)) ok_X10_mod12 lm_X10_52 dX10_transpose_37 rfl [] rfl (by decide) rfl rfl (by decide) (Nat.le_of_ble_eq_true rfl) rfl (by decide) (by decide) rfl rfl rfl ?_
    rw [hpt]
    refine wa_istore_n (pc' := 41) (ls' := [(2, _), (0, _), (1, _)]) dX10_transpose_40 rfl rfl (by decide) rfl ?_
    refine wa_bipush (pc' := 43) dX10_transpose_41 rfl rfl ?_
    refine wa_istore_n (pc' := 44) (ls' := [(3, _), (2, _), (0, _), (1, _)]) dX10_transpose_43 rfl rfl (by decide) rfl ?_
    refine wa_iconst (pc' := 45) dX10_transpose_44 rfl ?_
    refine wa_istore (pc' := 47) (ls' := [(4, _), (3, _), (2, _), (0, _), (1, _)]) dX10_transpose_45 rfl (by decide) rfl ?_
    refine l_trans _ _ _ _ _ _ _ _ _ _ _ _ _ _ _ _ _ _ _ _ _ _ se ((7 * tonO s.2.2.2.2.2.1 s.2.2.2.2.2.2 + se) % 12) s.2.2.2.2.2.2 (by omega) zm v3 hfl (smS ((7 * tonO s.2.2.2.2.2.1 s.2.2.2.2.2.2 + se) % 12) s.2.2.2.2.2.2 fl) ?_ 13 0 100 (by omega) (by omega) (Or.inl rfl) (tbR_e zm (by omega) hfl)
    refine wa_aload_n (pc' := 160) dX10_transpose_159 rfl rfl rfl ?_
    refine wa_getfield (pc' := 163) (j := 0) zc_X10 lk_X10_7 dX10_transpose_160 rfl (by decide) rfl rfl ?_
    refine wa_iconst (pc' := 164) dX10_transpose_163 rfl ?_
    refine wa_iload_n (pc' := 165) dX10_transpose_164 rfl rfl rfl ?_
    refine wa_iconst (pc' := 166) dX10_transpose_165 rfl ?_
    refine wa_aload_n (pc' := 167) dX10_transpose_166 rfl rfl rfl ?_
    refine wa_getfield (pc' := 170) (j := 0) zc_X10 lk_X10_7 dX10_transpose_167 rfl (by decide) rfl rfl ?_
    refine wa_iconst (pc' := 171) dX10_transpose_170 rfl ?_
    refine wa_iaload (pc' := 172) dX10_transpose_171 rfl rfl (by omega) (by omega) (by decide) ?_
    rw [v3]
    refine wa_imul (pc' := 173) dX10_transpose_172 rfl ?_
    refine wa_iadd (pc' := 174) dX10_transpose_173 rfl ?_
    refine wa_iastore (pc' := 175) (w' := [_, zA _ _ _, _, _, _, _, _, _, _, _]) dX10_transpose_174 rfl rfl (by omega) (by omega) (by decide) rfl ?_
    refine wa_aload_n (pc' := 176) dX10_transpose_175 rfl rfl rfl ?_
    refine wa_iload_n (pc' := 177) dX10_transpose_176 rfl rfl rfl ?_
    refine wa_gI (pc' := 180) (st := []) (k_X10_spells (sK s (smS ((7 * tonO s.2.2.2.2.2.1 s.2.2.2.2.2.2 + se) % 12) s.2.2.2.2.2.2 fl) s.2.2.2.2.2.2) _ _ _ _ _ _ _ _ _ _ _ _ _ _ _ _ _ _ _ _ _ _ se (okW_key hs hsm zm) (Vr_sg2 hv (smS ((7 * tonO s.2.2.2.2.2.1 s.2.2.2.2.2.2 + se) % 12) s.2.2.2.2.2.2 fl) ((smS ((7 * tonO s.2.2.2.2.2.1 s.2.2.2.2.2.2 + se) % 12) s.2.2.2.2.2.2 fl) + 3 * s.2.2.2.2.2.2) (by unfold tonO; split <;> omega)) hc hsi) ok_X10_spells lm_X10_191 dX10_transpose_177 rfl (wM_ok _ _ _ _ _ _ _ _ _ _ _ _ _ _ _ _ _ _ _ _ _ _ ) (fun _ => rfl) (fun _ => wM_ok _ _ _ _ _ _ _ _ _ _ _ _ _ _ _ _ _ _ _ _ _ _ ) rfl rfl (Nat.le_of_ble_eq_true rfl) rfl rfl rfl rfl (by decide) (Nat.le_of_ble_eq_true rfl) rfl (by decide) (by decide) rfl rfl (fun x9 hx9 => ?_)
    show Wa _ _ _ _ _ _ _ _ [_] _ _ _
    refine wa_istore (pc' := 182) (ls' := [(4, _), (3, _), (2, _), (0, _), (1, _)]) dX10_transpose_180 rfl (by decide) rfl ?_
    refine wa_iload_n (pc' := 183) dX10_transpose_182 rfl rfl rfl ?_
    refine wa_iret dX10_transpose_183 rfl (by decide) (by decide) ?_
    exact ⟨x9, hx9, rfl, rfl⟩
  · exact absurd hc (ite0 c13)

set_option maxRecDepth 10000 in
set_option maxHeartbeats 1000000 in
theorem k_X10_setKey0 (s : zSh) (v pa : Int → Int) (sn : Int) (tx : Int → Int) (ty si fl wi th ap nt rr rq rb wh : Int) (md na : Int → Int) (nd : Int) (up lo : Int → Int) (us lw : Int) (p : Int) (b : Int) (hs : okW s) (hv : Vr s v) (hp : zin p) (hb : b = 0 ∨ b = 1) (hc : ¬ (-6 ≤ p - 3 * b ∧ p - 3 * b ≤ 6)) : zMet q_X10_setKey 2 0 0 [zR 0, zI p, zI b] (wM v pa sn tx ty si fl wi th ap nt rr rq rb wh md na nd up lo us lw) (zD (some (zI (0))) (wM v pa sn tx ty si fl wi 1 ap nt rr rq rb wh md na nd up lo us lw)) := by
  refine z_introF (ls := [(0, _), (1, _), (2, _)]) (by decide +kernel) rfl (fun _ _ => rfl) (fun _ _ => Nat.le_of_ble_eq_true rfl) ?_
  obtain ⟨v0, v1, v2, v3, vT, vF, vL⟩ := id hv
  have hz := hs.1
  obtain ⟨z1, z2, zT1, z4, zF1, zL1⟩ := id hz.1
  have zNm := hz.2.1
  have zg := hz.2.2.1
  have zm := hz.2.2.2.1
  have zln := hz.2.2.2.2
  have vS := Vr_sg hv zm
  have zQ1 := fun i h1 h2 => (zNm i h1 h2).2.1
  refine wa_aload_n (pc' := 1) dX10_setKey_0 rfl rfl rfl ?_
  refine wa_iconst (pc' := 2) dX10_setKey_1 rfl ?_
  refine wa_putfield (pc' := 5) (j := 8) (w' := [zO _ [_, _, _, _, _, _, _, _, _, _, _, _, _, _, _, _, _, _, _, _, _, _, _, _], _, _, _, _, _, _, _, _, _]) zc_X10 lk_X10_46 dX10_setKey_2 rfl (by decide) rfl rfl (Nat.le_of_ble_eq_true rfl) True.intro rfl ?_
  refine wa_iload_n (pc' := 6) dX10_setKey_5 rfl rfl rfl ?_
  refine wa_iload_n (pc' := 7) dX10_setKey_6 rfl rfl rfl ?_
  refine wa_dS (pc' := 10) (w' := [_, _, _, _, _, _, _, _, _, _]) (k_X10_isKey _ _ (by omega) (by omega)) ok_X10_isKey lm_X10_177 dX10_setKey_7 rfl [] rfl (by decide) rfl rfl (by decide) (Nat.le_of_ble_eq_true rfl) rfl (by decide) (by decide) rfl rfl rfl ?_
  refine wa_if_ne (tgt := 19) (pc' := 13) dX10_setKey_10 (by decide) rfl (by split <;> omega) (fun c10 => ?_) (fun c10 => ?_)
  · exact absurd (ite1 c10) hc
  · refine wa_aload_n (pc' := 14) dX10_setKey_13 rfl rfl rfl ?_
    refine wa_iconst (pc' := 15) dX10_setKey_14 rfl ?_
    refine wa_iD2 (pc' := 18) (st := []) (k_X10_fails _ _ _ _ _ _ _ _ _ _ _ _ _ _ _ _ _ _ _ _ _ _ _ ) ok_X10_fails lm_X10_101 dX10_setKey_15 rfl (wM_ok _ _ _ _ _ _ _ _ _ _ _ _ _ _ _ _ _ _ _ _ _ _) (Eq.refl 10) (wM_ok _ _ _ _ _ _ _ _ _ _ _ _ _ _ _ _ _ _ _ _ _ _) rfl rfl (Nat.le_of_ble_eq_true rfl) rfl rfl rfl rfl (by decide) (Nat.le_of_ble_eq_true rfl) rfl (by decide) (by decide) rfl rfl ?_
    show Wa _ _ _ _ _ _ _ _ [_] _ _ _
    refine wa_iret dX10_setKey_18 rfl (by decide) (by decide) ?_
    first | (exfalso; omega) | exact zD_i rfl rfl

set_option maxRecDepth 10000 in
set_option maxHeartbeats 1000000 in
theorem k_X10_setKey1 (s : zSh) (v pa : Int → Int) (sn : Int) (tx : Int → Int) (ty si fl wi th ap nt rr rq rb wh : Int) (md na : Int → Int) (nd : Int) (up lo : Int → Int) (us lw : Int) (p : Int) (b : Int) (hs : okW s) (hv : Vr s v) (hsn : 0 ≤ sn ∧ sn ≤ 8) (hb : b = 0 ∨ b = 1) (hc : -6 ≤ p - 3 * b ∧ p - 3 * b ≤ 6) : zMet q_X10_setKey 2 0 0 [zR 0, zI p, zI b] (wM v pa sn tx ty si fl wi th ap nt rr rq rb wh md na nd up lo us lw) (zD (some (zI (s.2.2.2.2.2.1))) (wM (zup (zup v 2 p) 3 b) (actP v sn pa) (if sn = 8 then 8 else sn + 1) tx ty si fl wi 0 ap nt rr rq rb wh md na nd up lo us lw)) := by
  refine z_introF (ls := [(0, _), (1, _), (2, _)]) (by decide +kernel) rfl (fun _ _ => rfl) (fun _ _ => Nat.le_of_ble_eq_true rfl) ?_
  obtain ⟨v0, v1, v2, v3, vT, vF, vL⟩ := id hv
  have hz := hs.1
  obtain ⟨z1, z2, zT1, z4, zF1, zL1⟩ := id hz.1
  have zNm := hz.2.1
  have zg := hz.2.2.1
  have zm := hz.2.2.2.1
  have zln := hz.2.2.2.2
  have vS := Vr_sg hv zm
  have zQ1 := fun i h1 h2 => (zNm i h1 h2).2.1
  refine wa_aload_n (pc' := 1) dX10_setKey_0 rfl rfl rfl ?_
  refine wa_iconst (pc' := 2) dX10_setKey_1 rfl ?_
  refine wa_putfield (pc' := 5) (j := 8) (w' := [zO _ [_, _, _, _, _, _, _, _, _, _, _, _, _, _, _, _, _, _, _, _, _, _, _, _], _, _, _, _, _, _, _, _, _]) zc_X10 lk_X10_46 dX10_setKey_2 rfl (by decide) rfl rfl (Nat.le_of_ble_eq_true rfl) True.intro rfl ?_
  refine wa_iload_n (pc' := 6) dX10_setKey_5 rfl rfl rfl ?_
  refine wa_iload_n (pc' := 7) dX10_setKey_6 rfl rfl rfl ?_
  refine wa_dS (pc' := 10) (w' := [_, _, _, _, _, _, _, _, _, _]) (k_X10_isKey p b (by omega) hb) ok_X10_isKey lm_X10_177 dX10_setKey_7 rfl [] rfl (by decide) rfl rfl (by decide) (Nat.le_of_ble_eq_true rfl) rfl (by decide) (by decide) rfl rfl rfl ?_
  refine wa_if_ne (tgt := 19) (pc' := 13) dX10_setKey_10 (by decide) rfl (by split <;> omega) (fun c10 => ?_) (fun c10 => ?_)
  · refine wa_aload_n (pc' := 20) dX10_setKey_19 rfl rfl rfl ?_
    refine wa_iD2 (pc' := 23) (st := []) (k_X10_acts _ _ _ _ _ _ _ _ _ _ _ _ _ _ _ _ _ _ _ _ _ _ (by omega) ) ok_X10_acts lm_X10_107 dX10_setKey_20 rfl (wM_ok _ _ _ _ _ _ _ _ _ _ _ _ _ _ _ _ _ _ _ _ _ _) (Eq.refl 10) (wM_ok _ _ _ _ _ _ _ _ _ _ _ _ _ _ _ _ _ _ _ _ _ _) rfl rfl (Nat.le_of_ble_eq_true rfl) rfl rfl rfl rfl (by decide) (Nat.le_of_ble_eq_true rfl) rfl (by decide) (by decide) rfl rfl ?_
    show Wa _ _ _ _ _ _ _ _ [] _ _ _
    refine wa_aload_n (pc' := 24) dX10_setKey_23 rfl rfl rfl ?_
    refine wa_rI2 (pc' := 27) (st := []) (k_X10_signatureNow s _ _ _ _ _ _ _ _ _ _ _ _ _ _ _ _ _ _ _ _ _ _ hs hv ) ok_X10_signatureNow lm_X10_171 dX10_setKey_24 rfl (wM_ok _ _ _ _ _ _ _ _ _ _ _ _ _ _ _ _ _ _ _ _ _ _) rfl rfl (Nat.le_of_ble_eq_true rfl) rfl rfl rfl rfl (by decide) (Nat.le_of_ble_eq_true rfl) rfl (by decide) (by decide) rfl rfl ?_
    refine wa_istore_n (pc' := 28) (ls' := [(3, _), (0, _), (1, _), (2, _)]) dX10_setKey_27 rfl rfl (by decide) rfl ?_
    refine wa_aload_n (pc' := 29) dX10_setKey_28 rfl rfl rfl ?_
    refine wa_getfield (pc' := 32) (j := 0) zc_X10 lk_X10_7 dX10_setKey_29 rfl (by decide) rfl rfl ?_
    refine wa_iconst (pc' := 33) dX10_setKey_32 rfl ?_
    refine wa_iload_n (pc' := 34) dX10_setKey_33 rfl rfl rfl ?_
    refine wa_iastore (pc' := 35) (w' := [_, zA _ _ _, _, _, _, _, _, _, _, _]) dX10_setKey_34 rfl rfl (by omega) (by omega) (by decide) rfl ?_
    refine wa_aload_n (pc' := 36) dX10_setKey_35 rfl rfl rfl ?_
    refine wa_getfield (pc' := 39) (j := 0) zc_X10 lk_X10_7 dX10_setKey_36 rfl (by decide) rfl rfl ?_
    refine wa_iconst (pc' := 40) dX10_setKey_39 rfl ?_
    refine wa_join (J := 49) (P := fun x => x = b) (fun x49 e49 => ?_) (fun K49 => ?_)
    · have e49b := e49.symm
      subst e49b
      refine wa_iastore (pc' := 50) (w' := [_, zA _ _ _, _, _, _, _, _, _, _, _]) dX10_setKey_49 rfl rfl (by omega) (by omega) (by decide) rfl ?_
      refine wa_iload_n (pc' := 51) dX10_setKey_50 rfl rfl rfl ?_
      refine wa_iret dX10_setKey_51 rfl (by decide) (by decide) ?_
      first | (exfalso; omega) | exact zD_i rfl rfl
    · refine wa_iload_n (pc' := 41) dX10_setKey_40 rfl rfl rfl ?_
      refine wa_if_eq (tgt := 48) (pc' := 44) dX10_setKey_41 (by decide) rfl (by omega) (fun c41 => ?_) (fun c41 => ?_)
      · refine wa_iconst (pc' := 49) dX10_setKey_48 rfl ?_
        exact K49 _ (by show _ = _; omega)
      · refine wa_iconst (pc' := 45) dX10_setKey_44 rfl ?_
        refine wa_goto (pc' := 49) dX10_setKey_45 (by decide) ?_
        exact K49 _ (by show _ = _; omega)
  · exact absurd hc (ite0 c10)

