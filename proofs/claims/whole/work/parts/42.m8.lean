/-! the reference: all notes spelled -/
abbrev sF (s : zSh) (F : Int → Int) : zSh := (s.1, s.2.1, F, s.2.2.2)
theorem spl_b {pt sg si : Int} (hs : -6 ≤ sg ∧ sg ≤ 6) : -9 ≤ spl pt sg si ∧ spl pt sg si ≤ 14 := by
  have h1 := plf_b (sg - 3) pt
  have h2 := plf_b (-1) pt
  unfold spl
  split <;> omega
theorem Vr_up {s : zSh} {v : Int → Int} (h : Vr s v) {i f : Int} (hi : 0 ≤ i ∧ i < s.2.2.2.2.1) (hc : s.2.2.2.2.1 ≤ 40) (hf : 0 ≤ f ∧ f < 5) (x : Int) (hlc : s.2.2.2.1 ≤ 201) : Vr (sF s (zup s.2.2.1 (i * 5 + f) x)) (zup v (210 + 5 * i + f) x) := by
  obtain ⟨h0, h1, h2, h3, hT, hF, hL⟩ := h
  refine ⟨(zup9_ne (by omega)).trans h0, (zup9_ne (by omega)).trans h1, (zup9_ne (by omega)).trans h2, (zup9_ne (by omega)).trans h3, ?_, ?_, ?_⟩
  · intro k k0 k1
    have k1 : k ≤ s.2.2.2.1 := k1
    rw [zup9_ne (by omega)]
    exact hT k k0 k1
  · intro t t0 t1
    have t1 : t < 5 * s.2.2.2.2.1 := t1
    show zup v (210 + 5 * i + f) x (210 + t) = zup s.2.2.1 (i * 5 + f) x t
    by_cases h9 : t = i * 5 + f
    · rw [h9, zup9_eq, show 210 + (i * 5 + f) = 210 + 5 * i + f by omega, zup9_eq]
    · rw [zup9_ne h9, zup9_ne (by omega)]
      exact hF t t0 t1
  · intro j j0 j1
    have j1 : j < s.2.1 s.2.2.2.1 := j1
    rw [zup9_ne (by omega)]
    exact hL j j0 j1
theorem okW_F {s : zSh} (h : okW s) {F : Int → Int} (h01 : ∀ i : Int, 0 ≤ i → i < s.2.2.2.2.1 → F (i * 5 + 0) = s.2.2.1 (i * 5 + 0) ∧ F (i * 5 + 1) = s.2.2.1 (i * 5 + 1)) (hb : ∀ j : Int, 0 ≤ j → j < 200 → -1000 ≤ F j ∧ F j ≤ 1000) (hN : okN (sF s F)) : okW (sF s F) := by
  obtain ⟨⟨hD, hn, hg, hm, hl⟩, g0, gT, gC, gS⟩ := h
  refine ⟨⟨⟨hD.1, hD.2.1, hD.2.2.1, hD.2.2.2.1, hb, hD.2.2.2.2.2⟩, hN, hg, hm, ?_⟩, g0, gT, ?_, ?_⟩
  · intro i h0 h1
    have h2 := hl i h0 h1
    have h3 := h01 i h0 h1
    show 0 ≤ F (i * 5 + 0) ∧ F (i * 5 + 0) < _
    rw [h3.1]
    exact h2
  · intro i h0 h1
    have h2 := gC i h0 h1
    have h3 := h01 i h0 h1
    show 0 ≤ F (i * 5 + 1) ∧ F (i * 5 + 1) ≤ s.2.1 (F (i * 5 + 0) + 1) - s.2.1 (F (i * 5 + 0))
    rw [h3.1, h3.2]
    exact h2
  · intro i j h0 h1 h2
    have h2' : j < s.2.2.2.2.1 := h2
    have h3 := gS i j h0 h1 h2
    have h4 := h01 i h0 (by omega)
    have h5 := h01 j (by omega) h2
    show F (i * 5 + 0) < F (j * 5 + 0) ∨ (F (i * 5 + 0) = F (j * 5 + 0) ∧ F (i * 5 + 1) ≤ F (j * 5 + 1))
    rw [h4.1, h4.2, h5.1, h5.2]
    exact h3
theorem okW_up {s : zSh} (h : okW s) {i f x : Int} (hi : 0 ≤ i ∧ i < s.2.2.2.2.1) (hf : (f = 2 ∧ -9 ≤ x ∧ x ≤ 14) ∨ (f = 3 ∧ 0 ≤ x ∧ x < 10) ∨ (f = 4 ∧ (x = 100 ∨ (-9 ≤ x ∧ x ≤ 14)))) : okW (sF s (zup s.2.2.1 (i * 5 + f) x)) := by
  have hN := h.1.2.1
  refine okW_F h ?_ (zup_b h.1.1.2.2.2.2.1 (by omega)) ?_
  · intro j j0 j1
    exact ⟨zup9_ne (by omega), zup9_ne (by omega)⟩
  · intro j j0 j1
    obtain ⟨n1, n2, n3⟩ := hN j j0 j1
    by_cases hj : j = i
    · subst hj
      rcases hf with ⟨rfl, h1, h2⟩ | ⟨rfl, h1, h2⟩ | ⟨rfl, h1⟩
      · refine ⟨?_, ?_, ?_⟩
        · show -9 ≤ zup s.2.2.1 (j * 5 + 2) x (j * 5 + 2) ∧ zup s.2.2.1 (j * 5 + 2) x (j * 5 + 2) ≤ 14
          rw [zup9_eq]; exact ⟨h1, h2⟩
        · show 0 ≤ zup s.2.2.1 (j * 5 + 2) x (j * 5 + 3) ∧ zup s.2.2.1 (j * 5 + 2) x (j * 5 + 3) < 10
          rw [zup9_ne (by omega)]; exact n2
        · show zup s.2.2.1 (j * 5 + 2) x (j * 5 + 4) = 100 ∨ (-9 ≤ zup s.2.2.1 (j * 5 + 2) x (j * 5 + 4) ∧ zup s.2.2.1 (j * 5 + 2) x (j * 5 + 4) ≤ 14)
          rw [zup9_ne (by omega)]; exact n3
      · refine ⟨?_, ?_, ?_⟩
        · show -9 ≤ zup s.2.2.1 (j * 5 + 3) x (j * 5 + 2) ∧ zup s.2.2.1 (j * 5 + 3) x (j * 5 + 2) ≤ 14
          rw [zup9_ne (by omega)]; exact n1
        · show 0 ≤ zup s.2.2.1 (j * 5 + 3) x (j * 5 + 3) ∧ zup s.2.2.1 (j * 5 + 3) x (j * 5 + 3) < 10
          rw [zup9_eq]; exact ⟨h1, h2⟩
        · show zup s.2.2.1 (j * 5 + 3) x (j * 5 + 4) = 100 ∨ (-9 ≤ zup s.2.2.1 (j * 5 + 3) x (j * 5 + 4) ∧ zup s.2.2.1 (j * 5 + 3) x (j * 5 + 4) ≤ 14)
          rw [zup9_ne (by omega)]; exact n3
      · refine ⟨?_, ?_, ?_⟩
        · show -9 ≤ zup s.2.2.1 (j * 5 + 4) x (j * 5 + 2) ∧ zup s.2.2.1 (j * 5 + 4) x (j * 5 + 2) ≤ 14
          rw [zup9_ne (by omega)]; exact n1
        · show 0 ≤ zup s.2.2.1 (j * 5 + 4) x (j * 5 + 3) ∧ zup s.2.2.1 (j * 5 + 4) x (j * 5 + 3) < 10
          rw [zup9_ne (by omega)]; exact n2
        · show zup s.2.2.1 (j * 5 + 4) x (j * 5 + 4) = 100 ∨ (-9 ≤ zup s.2.2.1 (j * 5 + 4) x (j * 5 + 4) ∧ zup s.2.2.1 (j * 5 + 4) x (j * 5 + 4) ≤ 14)
          rw [zup9_eq]; exact h1
    · refine ⟨?_, ?_, ?_⟩
      · show -9 ≤ zup s.2.2.1 (i * 5 + f) x (j * 5 + 2) ∧ zup s.2.2.1 (i * 5 + f) x (j * 5 + 2) ≤ 14
        rw [zup9_ne (by omega)]; exact n1
      · show 0 ≤ zup s.2.2.1 (i * 5 + f) x (j * 5 + 3) ∧ zup s.2.2.1 (i * 5 + f) x (j * 5 + 3) < 10
        rw [zup9_ne (by omega)]; exact n2
      · show zup s.2.2.1 (i * 5 + f) x (j * 5 + 4) = 100 ∨ (-9 ≤ zup s.2.2.1 (i * 5 + f) x (j * 5 + 4) ∧ zup s.2.2.1 (i * 5 + f) x (j * 5 + 4) ≤ 14)
        rw [zup9_ne (by omega)]; exact n3
set_option maxRecDepth 10000 in
set_option maxHeartbeats 1000000 in
theorem l_spells (s0 : zSh) (pa : Int → Int) (sn : Int) (tx : Int → Int) (ty si fl wi th ap nt rr rq rb wh : Int) (md na : Int → Int) (nd : Int) (up lo : Int → Int) (us lw : Int) (se : Int) (hse : -11 ≤ se ∧ se ≤ 11) (hsi : si = 0 ∨ si = 1) (R : Int × (Int → Int)) : ∀ (m : Nat) (i n : Int) (s : zSh) (v : Int → Int), okW s → Vr s v → sF s0 s.2.2.1 = s → 0 ≤ i → i + m = s.2.2.2.2.1 → spR se s.2.2.2.2.2.1 si m i n s.2.2.1 = R → Wa q_X10_spells 3 0 0 10 (fun o w' => ∃ x : Int → Int, (Vr (sF s0 R.2) x ∧ okW (sF s0 R.2)) ∧ o = .inl (some (zI R.1)) ∧ w' = (wM x pa sn tx ty si fl wi th ap nt rr rq rb wh md na nd up lo us lw)) 4 [(3, zI i), (2, zI n), (0, zR 0), (1, zI se)] [] (wM v pa sn tx ty si fl wi th ap nt rr rq rb wh md na nd up lo us lw) 0 0 := by
  intro m
  induction m with
  | zero =>
    intro i n s v hs hv h9 h0 hm hR
    obtain ⟨v0, v1, v2, v3, vT, vF, vL⟩ := id hv
    have hz := hs.1
    obtain ⟨z1, z2, zT1, z4, zF1, zL1⟩ := id hz.1
    have zNm := hz.2.1
    have zg := hz.2.2.1
    have zm := hz.2.2.2.1
    have zln := hz.2.2.2.2
    have vS := Vr_sg hv zm
    have zQ1 := fun i h1 h2 => (zNm i h1 h2).2.1
    refine wa_iload_n (pc' := 5) dX10_spells_4 rfl rfl rfl ?_
    refine wa_aload_n (pc' := 6) dX10_spells_5 rfl rfl rfl ?_
    refine wa_getfield (pc' := 9) (j := 0) zc_X10 lk_X10_7 dX10_spells_6 rfl (by decide) rfl rfl ?_
    refine wa_iconst (pc' := 10) dX10_spells_9 rfl ?_
    refine wa_iaload (pc' := 11) dX10_spells_10 rfl rfl (by omega) (by omega) (by decide) ?_
    refine wa_icmp_ge (tgt := 113) (pc' := 14) dX10_spells_11 (by decide) rfl (by omega) (by omega) (fun c11 => ?_) (fun c11 => ?_)
    · refine wa_iload_n (pc' := 114) dX10_spells_113 rfl rfl rfl ?_
      refine wa_iret dX10_spells_114 rfl (by decide) (by decide) ?_
      refine ⟨v, ⟨?_, ?_⟩, ?_, rfl⟩
      · rw [← hR]; show Vr (sF s0 s.2.2.1) v; rw [h9]; exact hv
      · rw [← hR]; show okW (sF s0 s.2.2.1); rw [h9]; exact hs
      · rw [← hR]; rfl
    · exact absurd c11 (by omega)
  | succ m ih =>
    intro i n s v hs hv h9 h0 hm hR
    obtain ⟨v0, v1, v2, v3, vT, vF, vL⟩ := id hv
    have hz := hs.1
    obtain ⟨z1, z2, zT1, z4, zF1, zL1⟩ := id hz.1
    have zNm := hz.2.1
    have zg := hz.2.2.1
    have zm := hz.2.2.2.1
    have zln := hz.2.2.2.2
    have vS := Vr_sg hv zm
    have zQ1 := fun i h1 h2 => (zNm i h1 h2).2.1
    have f2 := Vr_F hv (i := i) (f := 2) (by omega) (by omega)
    have f3 := Vr_F hv (i := i) (f := 3) (by omega) (by omega)
    have f4 := Vr_F hv (i := i) (f := 4) (by omega) (by omega)
    have b2 := zF1 (i * 5 + 2) (by omega) (by omega)
    have b4 := zF1 (i * 5 + 4) (by omega) (by omega)
    have b3 := zQ1 i (by omega) (by omega)
    obtain ⟨n1, n2, n3⟩ := zNm i (by omega) (by omega)
    have p2 := pcl_b (s.2.2.1 (i * 5 + 2))
    have m2 : (pcl (s.2.2.1 (i * 5 + 2)) + se) % 12 = (7 * (s.2.2.1 (i * 5 + 2)) + se) % 12 := by unfold pcl; omega
    have m4 : (pcl (s.2.2.1 (i * 5 + 4)) + se) % 12 = (7 * (s.2.2.1 (i * 5 + 4)) + se) % 12 := by unfold pcl; omega
    have e2 : spl ((7 * (s.2.2.1 (i * 5 + 2)) + se) % 12) s.2.2.2.2.2.1 si = spP (s.2.2.1 (i * 5 + 2)) se s.2.2.2.2.2.1 si := rfl
    have e4 : spl ((7 * (s.2.2.1 (i * 5 + 4)) + se) % 12) s.2.2.2.2.2.1 si = spP (s.2.2.1 (i * 5 + 4)) se s.2.2.2.2.2.1 si := rfl
    have bx2 : -9 ≤ spP (s.2.2.1 (i * 5 + 2)) se s.2.2.2.2.2.1 si ∧ spP (s.2.2.1 (i * 5 + 2)) se s.2.2.2.2.2.1 si ≤ 14 := spl_b zg
    have bx4 : -9 ≤ spP (s.2.2.1 (i * 5 + 4)) se s.2.2.2.2.2.1 si ∧ spP (s.2.2.1 (i * 5 + 4)) se s.2.2.2.2.2.1 si ≤ 14 := spl_b zg
    have p4 := pcl_b (s.2.2.1 (i * 5 + 4))
    have s1 := okW_up hs (i := i) (f := 2) (x := spP (s.2.2.1 (i * 5 + 2)) se s.2.2.2.2.2.1 si) (by omega) (Or.inl ⟨rfl, bx2⟩)
    have w1 := Vr_up hv (i := i) (f := 2) (by omega) (by omega) (by omega) (spP (s.2.2.1 (i * 5 + 2)) se s.2.2.2.2.2.1 si) (by omega)
    have g4 : zup v (210 + 5 * i + 2) (spP (s.2.2.1 (i * 5 + 2)) se s.2.2.2.2.2.1 si) (210 + 5 * i + 4) = s.2.2.1 (i * 5 + 4) := (zup9_ne (by omega)).trans f4
    have g5 : zup s.2.2.1 (i * 5 + 2) (spP (s.2.2.1 (i * 5 + 2)) se s.2.2.2.2.2.1 si) (i * 5 + 4) = s.2.2.1 (i * 5 + 4) := zup9_ne (by omega)
    have u2 : spU s.2.2.1 (i * 5 + 2) se s.2.2.2.2.2.1 si = zup s.2.2.1 (i * 5 + 2) (spP (s.2.2.1 (i * 5 + 2)) se s.2.2.2.2.2.1 si) := if_neg (by omega)
    rw [spR, spI, u2, g5, spC, if_neg (show ¬ s.2.2.1 (i * 5 + 2) = 100 by omega)] at hR
    refine wa_iload_n (pc' := 5) dX10_spells_4 rfl rfl rfl ?_
    refine wa_aload_n (pc' := 6) dX10_spells_5 rfl rfl rfl ?_
    refine wa_getfield (pc' := 9) (j := 0) zc_X10 lk_X10_7 dX10_spells_6 rfl (by decide) rfl rfl ?_
    refine wa_iconst (pc' := 10) dX10_spells_9 rfl ?_
    refine wa_iaload (pc' := 11) dX10_spells_10 rfl rfl (by omega) (by omega) (by decide) ?_
    refine wa_icmp_ge (tgt := 113) (pc' := 14) dX10_spells_11 (by decide) rfl (by omega) (by omega) (fun c11 => ?_) (fun c11 => ?_)
    · exact absurd c11 (by omega)
    · refine wa_iconst (pc' := 15) dX10_spells_14 rfl ?_
      refine wa_istore (pc' := 17) (ls' := [(4, _), (3, _), (2, _), (0, _), (1, _)]) dX10_spells_15 rfl (by decide) rfl ?_
      refine wa_iload (pc' := 19) dX10_spells_17 rfl rfl ?_
      refine wa_iconst (pc' := 20) dX10_spells_19 rfl ?_
      refine wa_icmp_gt (tgt := 107) (pc' := 23) dX10_spells_20 (by decide) rfl (by omega) (by omega) (fun c20 => ?_) (fun c20 => ?_)
      · exact absurd c20 (by omega)
      · refine wa_aload_n (pc' := 24) dX10_spells_23 rfl rfl rfl ?_
        refine wa_getfield (pc' := 27) (j := 0) zc_X10 lk_X10_7 dX10_spells_24 rfl (by decide) rfl rfl ?_
        refine wa_iload_n (pc' := 28) dX10_spells_27 rfl rfl rfl ?_
        refine wa_dS (pc' := 31) (w' := [_, _, _, _, _, _, _, _, _, _]) (k_X10_chord i (by omega)) ok_X10_chord lm_X10_94 dX10_spells_28 rfl [] rfl (by decide) rfl rfl (by decide) (Nat.le_of_ble_eq_true rfl) rfl (by decide) (by decide) rfl rfl rfl ?_
        refine wa_iload (pc' := 33) dX10_spells_31 rfl rfl ?_
        refine wa_iadd (pc' := 34) dX10_spells_33 rfl ?_
        refine wa_iaload (pc' := 35) dX10_spells_34 rfl rfl (by omega) (by omega) (by decide) ?_
        rw [f2]
        refine wa_istore (pc' := 37) (ls' := [(5, _), (4, _), (3, _), (2, _), (0, _), (1, _)]) dX10_spells_35 rfl (by decide) rfl ?_
        refine wa_iload (pc' := 39) dX10_spells_37 rfl rfl ?_
        refine wa_iconst (pc' := 40) dX10_spells_39 rfl ?_
        refine wa_icmp_eq (tgt := 50) (pc' := 43) dX10_spells_40 (by decide) rfl (by omega) (by omega) (fun c40 => ?_) (fun c40 => ?_)
        · refine wa_aload_n (pc' := 51) dX10_spells_50 rfl rfl rfl ?_
          refine wa_getfield (pc' := 54) (j := 0) zc_X10 lk_X10_7 dX10_spells_51 rfl (by decide) rfl rfl ?_
          refine wa_iload_n (pc' := 55) dX10_spells_54 rfl rfl rfl ?_
          refine wa_dS (pc' := 58) (w' := [_, _, _, _, _, _, _, _, _, _]) (k_X10_chord i (by omega)) ok_X10_chord lm_X10_94 dX10_spells_55 rfl [] rfl (by decide) rfl rfl (by decide) (Nat.le_of_ble_eq_true rfl) rfl (by decide) (by decide) rfl rfl rfl ?_
          refine wa_iload (pc' := 60) dX10_spells_58 rfl rfl ?_
          refine wa_iadd (pc' := 61) dX10_spells_60 rfl ?_
          refine wa_aload_n (pc' := 62) dX10_spells_61 rfl rfl rfl ?_
          refine wa_iload (pc' := 64) dX10_spells_62 rfl rfl ?_
          refine wa_dS (pc' := 67) (w' := [_, _, _, _, _, _, _, _, _, _]) (k_X10_pitch (s.2.2.1 (i * 5 + 2)) (by omega)) ok_X10_pitch lm_X10_161 dX10_spells_64 rfl [] rfl (by decide) rfl rfl (by decide) (Nat.le_of_ble_eq_true rfl) rfl (by decide) (by decide) rfl rfl rfl ?_
          refine wa_iload_n (pc' := 68) dX10_spells_67 rfl rfl rfl ?_
          refine wa_iadd (pc' := 69) dX10_spells_68 rfl ?_
          refine wa_dS (pc' := 72) (w' := [_, _, _, _, _, _, _, _, _, _]) (k_X10_mod12 (pcl (s.2.2.1 (i * 5 + 2)) + se) (by omega)) ok_X10_mod12 lm_X10_52 dX10_spells_69 rfl [] rfl (by decide) rfl rfl (by decide) (Nat.le_of_ble_eq_true rfl) rfl (by decide) (by decide) rfl rfl rfl ?_
          refine wa_rI2 (pc' := 75) (st := [_, _]) (k_X10_spelled s _ _ _ _ _ _ _ _ _ _ _ _ _ _ _ _ _ _ _ _ _ _ ((pcl (s.2.2.1 (i * 5 + 2)) + se) % 12) hs hv (by omega) hsi) ok_X10_spelled lm_X10_188 dX10_spells_72 rfl (wM_ok _ _ _ _ _ _ _ _ _ _ _ _ _ _ _ _ _ _ _ _ _ _) rfl rfl (Nat.le_of_ble_eq_true rfl) rfl rfl rfl rfl (by decide) (Nat.le_of_ble_eq_true rfl) rfl (by decide) (by decide) rfl rfl ?_
          rw [m2, e2]
          refine wa_iastore (pc' := 76) (w' := [_, zA _ _ _, _, _, _, _, _, _, _, _]) dX10_spells_75 rfl rfl (by omega) (by omega) (by decide) rfl ?_
          refine wa_iload_n (pc' := 77) dX10_spells_76 rfl rfl rfl ?_
          refine wa_join (J := 99) (P := fun x => x = 0 ∧ spP (s.2.2.1 (i * 5 + 2)) se s.2.2.2.2.2.1 si = s.2.2.1 (i * 5 + 2) ∨ x = 1 ∧ ¬ spP (s.2.2.1 (i * 5 + 2)) se s.2.2.2.2.2.1 si = s.2.2.1 (i * 5 + 2)) (fun x99 e99 => ?_) (fun K99 => ?_)
          · refine wa_iadd (pc' := 100) dX10_spells_99 rfl ?_
            refine wa_istore_n (pc' := 101) (ls' := [(2, _), (5, _), (4, _), (3, _), (0, _), (1, _)]) dX10_spells_100 rfl rfl (by decide) rfl ?_
            refine wa_iinc (pc' := 104) (ls' := [(4, _), (2, _), (5, _), (3, _), (0, _), (1, _)]) dX10_spells_101 rfl rfl (by decide) rfl ?_
            refine wa_goto (pc' := 17) dX10_spells_104 (by decide) ?_
            refine wa_sub [0, 3, 1, 4, 5] rfl ?_
            rw [show (2 : Int) + 2 = 4 from rfl]
            have q2 : (if spP (s.2.2.1 (i * 5 + 2)) se s.2.2.2.2.2.1 si = s.2.2.1 (i * 5 + 2) then (0 : Int) else 1) = x99 := by split <;> omega
            rw [q2] at hR
            refine wa_iload (pc' := 19) dX10_spells_17 rfl rfl ?_
            refine wa_iconst (pc' := 20) dX10_spells_19 rfl ?_
            refine wa_icmp_gt (tgt := 107) (pc' := 23) dX10_spells_20 (by decide) rfl (by omega) (by omega) (fun c20 => ?_) (fun c20 => ?_)
            · exact absurd c20 (by omega)
            · refine wa_aload_n (pc' := 24) dX10_spells_23 rfl rfl rfl ?_
              refine wa_getfield (pc' := 27) (j := 0) zc_X10 lk_X10_7 dX10_spells_24 rfl (by decide) rfl rfl ?_
              refine wa_iload_n (pc' := 28) dX10_spells_27 rfl rfl rfl ?_
              refine wa_dS (pc' := 31) (w' := [_, _, _, _, _, _, _, _, _, _]) (k_X10_chord i (by omega)) ok_X10_chord lm_X10_94 dX10_spells_28 rfl [] rfl (by decide) rfl rfl (by decide) (Nat.le_of_ble_eq_true rfl) rfl (by decide) (by decide) rfl rfl rfl ?_
              refine wa_iload (pc' := 33) dX10_spells_31 rfl rfl ?_
              refine wa_iadd (pc' := 34) dX10_spells_33 rfl ?_
              refine wa_iaload (pc' := 35) dX10_spells_34 rfl rfl (by omega) (by omega) (by decide) ?_
              rw [g4]
              refine wa_istore (pc' := 37) (ls' := [(5, _), (4, _), (3, _), (2, _), (0, _), (1, _)]) dX10_spells_35 rfl (by decide) rfl ?_
              refine wa_iload (pc' := 39) dX10_spells_37 rfl rfl ?_
              refine wa_iconst (pc' := 40) dX10_spells_39 rfl ?_
              refine wa_icmp_eq (tgt := 50) (pc' := 43) dX10_spells_40 (by decide) rfl (by omega) (by omega) (fun c40 => ?_) (fun c40 => ?_)
              · exact absurd c40 (by decide)
              · refine wa_iload (pc' := 45) dX10_spells_43 rfl rfl ?_
                refine wa_bipush (pc' := 47) dX10_spells_45 rfl rfl ?_
                refine wa_icmp_eq (tgt := 101) (pc' := 50) dX10_spells_47 (by decide) rfl (by omega) (by omega) (fun c47 => ?_) (fun c47 => ?_)
                · rw [spC, spU, g5, if_pos c47, if_pos c47] at hR
                  refine wa_iinc (pc' := 104) (ls' := [(4, _), (5, _), (3, _), (2, _), (0, _), (1, _)]) dX10_spells_101 rfl rfl (by decide) rfl ?_
                  refine wa_goto (pc' := 17) dX10_spells_104 (by decide) ?_
                  refine wa_sub [0, 2, 3, 4, 5] rfl ?_
                  refine wa_iload (pc' := 19) dX10_spells_17 rfl rfl ?_
                  refine wa_iconst (pc' := 20) dX10_spells_19 rfl ?_
                  refine wa_icmp_gt (tgt := 107) (pc' := 23) dX10_spells_20 (by decide) rfl (by omega) (by omega) (fun c20 => ?_) (fun c20 => ?_)
                  · refine wa_iinc (pc' := 110) (ls' := [(3, _), (4, _), (2, _), (0, _), (1, _)]) dX10_spells_107 rfl rfl (by decide) rfl ?_
                    refine wa_goto (pc' := 4) dX10_spells_110 (by decide) ?_
                    refine wa_sub [0, 2, 3, 4] rfl ?_
                    exact ih (i + 1) _ _ _ s1 w1 (by rw [← h9]) (by omega) (by show _ = s.2.2.2.2.1; omega) (by rw [Int.add_zero] at hR; exact hR)
                  · exact absurd c20 (by decide)
                · rw [spC, spU, g5, if_neg c47, if_neg c47] at hR
                  have s2 := okW_up s1 (i := i) (f := 4) (x := spP (s.2.2.1 (i * 5 + 4)) se s.2.2.2.2.2.1 si) (by show 0 ≤ i ∧ i < s.2.2.2.2.1; omega) (Or.inr (Or.inr ⟨rfl, Or.inr bx4⟩))
                  have w2 := Vr_up w1 (i := i) (f := 4) (by show 0 ≤ i ∧ i < s.2.2.2.2.1; omega) (by show s.2.2.2.2.1 ≤ 40; omega) (by omega) (spP (s.2.2.1 (i * 5 + 4)) se s.2.2.2.2.2.1 si) (by show s.2.2.2.1 ≤ 201; omega)
                  refine wa_aload_n (pc' := 51) dX10_spells_50 rfl rfl rfl ?_
                  refine wa_getfield (pc' := 54) (j := 0) zc_X10 lk_X10_7 dX10_spells_51 rfl (by decide) rfl rfl ?_
                  refine wa_iload_n (pc' := 55) dX10_spells_54 rfl rfl rfl ?_
                  refine wa_dS (pc' := 58) (w' := [_, _, _, _, _, _, _, _, _, _]) (k_X10_chord i (by omega)) ok_X10_chord lm_X10_94 dX10_spells_55 rfl [] rfl (by decide) rfl rfl (by decide) (Nat.le_of_ble_eq_true rfl) rfl (by decide) (by decide) rfl rfl rfl ?_
                  refine wa_iload (pc' := 60) dX10_spells_58 rfl rfl ?_
                  refine wa_iadd (pc' := 61) dX10_spells_60 rfl ?_
                  refine wa_aload_n (pc' := 62) dX10_spells_61 rfl rfl rfl ?_
                  refine wa_iload (pc' := 64) dX10_spells_62 rfl rfl ?_
                  refine wa_dS (pc' := 67) (w' := [_, _, _, _, _, _, _, _, _, _]) (k_X10_pitch (s.2.2.1 (i * 5 + 4)) (by omega)) ok_X10_pitch lm_X10_161 dX10_spells_64 rfl [] rfl (by decide) rfl rfl (by decide) (Nat.le_of_ble_eq_true rfl) rfl (by decide) (by decide) rfl rfl rfl ?_
                  refine wa_iload_n (pc' := 68) dX10_spells_67 rfl rfl rfl ?_
                  refine wa_iadd (pc' := 69) dX10_spells_68 rfl ?_
                  refine wa_dS (pc' := 72) (w' := [_, _, _, _, _, _, _, _, _, _]) (k_X10_mod12 (pcl (s.2.2.1 (i * 5 + 4)) + se) (by omega)) ok_X10_mod12 lm_X10_52 dX10_spells_69 rfl [] rfl (by decide) rfl rfl (by decide) (Nat.le_of_ble_eq_true rfl) rfl (by decide) (by decide) rfl rfl rfl ?_
                  refine wa_rI2 (pc' := 75) (st := [_, _]) (k_X10_spelled (sF s (zup s.2.2.1 (i * 5 + 2) (spP (s.2.2.1 (i * 5 + 2)) se s.2.2.2.2.2.1 si))) _ _ _ _ _ _ _ _ _ _ _ _ _ _ _ _ _ _ _ _ _ _ ((pcl (s.2.2.1 (i * 5 + 4)) + se) % 12) s1 w1 (by omega) hsi) ok_X10_spelled lm_X10_188 dX10_spells_72 rfl (wM_ok _ _ _ _ _ _ _ _ _ _ _ _ _ _ _ _ _ _ _ _ _ _) rfl rfl (Nat.le_of_ble_eq_true rfl) rfl rfl rfl rfl (by decide) (Nat.le_of_ble_eq_true rfl) rfl (by decide) (by decide) rfl rfl ?_
                  show Wa _ _ _ _ _ _ _ _ (zI (spl ((pcl (s.2.2.1 (i * 5 + 4)) + se) % 12) s.2.2.2.2.2.1 si) :: _) _ _ _
                  rw [m4, e4]
                  refine wa_iastore (pc' := 76) (w' := [_, zA _ _ _, _, _, _, _, _, _, _, _]) dX10_spells_75 rfl rfl (by omega) (by omega) (by decide) rfl ?_
                  refine wa_iload_n (pc' := 77) dX10_spells_76 rfl rfl rfl ?_
                  refine wa_join (J := 99) (P := fun x => x = 0 ∧ spP (s.2.2.1 (i * 5 + 4)) se s.2.2.2.2.2.1 si = s.2.2.1 (i * 5 + 4) ∨ x = 1 ∧ ¬ spP (s.2.2.1 (i * 5 + 4)) se s.2.2.2.2.2.1 si = s.2.2.1 (i * 5 + 4)) (fun x99 e99 => ?_) (fun K99 => ?_)
                  · refine wa_iadd (pc' := 100) dX10_spells_99 rfl ?_
                    refine wa_istore_n (pc' := 101) (ls' := [(2, _), (5, _), (4, _), (3, _), (0, _), (1, _)]) dX10_spells_100 rfl rfl (by decide) rfl ?_
                    refine wa_iinc (pc' := 104) (ls' := [(4, _), (2, _), (5, _), (3, _), (0, _), (1, _)]) dX10_spells_101 rfl rfl (by decide) rfl ?_
                    refine wa_goto (pc' := 17) dX10_spells_104 (by decide) ?_
                    refine wa_sub [0, 3, 1, 4, 5] rfl ?_
                    refine wa_iload (pc' := 19) dX10_spells_17 rfl rfl ?_
                    refine wa_iconst (pc' := 20) dX10_spells_19 rfl ?_
                    refine wa_icmp_gt (tgt := 107) (pc' := 23) dX10_spells_20 (by decide) rfl (by omega) (by omega) (fun c20 => ?_) (fun c20 => ?_)
                    · refine wa_iinc (pc' := 110) (ls' := [(3, _), (4, _), (2, _), (0, _), (1, _)]) dX10_spells_107 rfl rfl (by decide) rfl ?_
                      refine wa_goto (pc' := 4) dX10_spells_110 (by decide) ?_
                      refine wa_sub [0, 2, 3, 4] rfl ?_
                      have q4 : (if spP (s.2.2.1 (i * 5 + 4)) se s.2.2.2.2.2.1 si = s.2.2.1 (i * 5 + 4) then (0 : Int) else 1) = x99 := by split <;> omega
                      rw [q4] at hR
                      exact ih (i + 1) _ _ _ s2 w2 (by rw [← h9]) (by omega) (by show _ = s.2.2.2.2.1; omega) hR
                    · exact absurd c20 (by decide)
                  · refine wa_aload_n (pc' := 78) dX10_spells_77 rfl rfl rfl ?_
                    refine wa_getfield (pc' := 81) (j := 0) zc_X10 lk_X10_7 dX10_spells_78 rfl (by decide) rfl rfl ?_
                    refine wa_iload_n (pc' := 82) dX10_spells_81 rfl rfl rfl ?_
                    refine wa_dS (pc' := 85) (w' := [_, _, _, _, _, _, _, _, _, _]) (k_X10_chord i (by omega)) ok_X10_chord lm_X10_94 dX10_spells_82 rfl [] rfl (by decide) rfl rfl (by decide) (Nat.le_of_ble_eq_true rfl) rfl (by decide) (by decide) rfl rfl rfl ?_
                    refine wa_iload (pc' := 87) dX10_spells_85 rfl rfl ?_
                    refine wa_iadd (pc' := 88) dX10_spells_87 rfl ?_
                    refine wa_iaload (pc' := 89) dX10_spells_88 rfl rfl (by omega) (by omega) (by decide) ?_
                    rw [zup9_eq]
                    refine wa_iload (pc' := 91) dX10_spells_89 rfl rfl ?_
                    refine wa_icmp_eq (tgt := 98) (pc' := 94) dX10_spells_91 (by decide) rfl (by omega) (by omega) (fun c91 => ?_) (fun c91 => ?_)
                    · refine wa_iconst (pc' := 99) dX10_spells_98 rfl ?_
                      exact K99 _ (by show _ ∨ _; omega)
                    · refine wa_iconst (pc' := 95) dX10_spells_94 rfl ?_
                      refine wa_goto (pc' := 99) dX10_spells_95 (by decide) ?_
                      exact K99 _ (by show _ ∨ _; omega)
          · refine wa_aload_n (pc' := 78) dX10_spells_77 rfl rfl rfl ?_
            refine wa_getfield (pc' := 81) (j := 0) zc_X10 lk_X10_7 dX10_spells_78 rfl (by decide) rfl rfl ?_
            refine wa_iload_n (pc' := 82) dX10_spells_81 rfl rfl rfl ?_
            refine wa_dS (pc' := 85) (w' := [_, _, _, _, _, _, _, _, _, _]) (k_X10_chord i (by omega)) ok_X10_chord lm_X10_94 dX10_spells_82 rfl [] rfl (by decide) rfl rfl (by decide) (Nat.le_of_ble_eq_true rfl) rfl (by decide) (by decide) rfl rfl rfl ?_
            refine wa_iload (pc' := 87) dX10_spells_85 rfl rfl ?_
            refine wa_iadd (pc' := 88) dX10_spells_87 rfl ?_
            refine wa_iaload (pc' := 89) dX10_spells_88 rfl rfl (by omega) (by omega) (by decide) ?_
            rw [zup9_eq]
            refine wa_iload (pc' := 91) dX10_spells_89 rfl rfl ?_
            refine wa_icmp_eq (tgt := 98) (pc' := 94) dX10_spells_91 (by decide) rfl (by omega) (by omega) (fun c91 => ?_) (fun c91 => ?_)
            · refine wa_iconst (pc' := 99) dX10_spells_98 rfl ?_
              exact K99 _ (by show _ ∨ _; omega)
            · refine wa_iconst (pc' := 95) dX10_spells_94 rfl ?_
              refine wa_goto (pc' := 99) dX10_spells_95 (by decide) ?_
              exact K99 _ (by show _ ∨ _; omega)
        · exact absurd rfl c40


