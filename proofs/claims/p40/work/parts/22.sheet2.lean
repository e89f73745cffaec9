/-! Sheet, 2: copies, spelling, fingerprint -/
theorem wa_eqA {Y : zY} {d mc ms n0 : Nat} {Post : zP → List zE → Prop} {pc : Nat} {ls : List (Nat × zV)} {st : List zV} {w w' : List zE} {nc ns : Nat} (k t n : Nat) {f : Int → Int} (g : Int → Int) (he : w[k]? = some (zA t n f)) (h : ∀ j : Int, 0 ≤ j → j < n → f j = g j) (hw : w.set k (zA t n g) = w') (k9 : Wa Y d mc ms n0 Post pc ls st w' nc ns) : Wa Y d mc ms n0 Post pc ls st w nc ns := by
  subst hw
  intro p l e R s m args below meth c G A ad0 Qm C9 F ad H locs lsA hag hst hl
  refine Wa.wW k9 C9 F (by rw [List.length_set]; exact hag) rfl ⟨?_, zD_len hst.2.1 (by rw [List.length_set]), hst.2.2⟩ hl
  intro i q hq
  rw [zw_set] at hq
  by_cases hi : i = k
  · subst hi
    have hil : i < w.length := (List.getElem?_eq_some_iff.mp he).1
    rw [List.getElem?_set_self (by rw [zw_len]; exact hil)] at hq
    cases hq
    have h1 := hst.1 i _ (zw_get he)
    have e9 : ∀ cA : ClassId, vp_cell cA (n, if t = 2 then .inr (.inl fun j : Nat => Int64.ofInt (g j)) else .inl fun j : Nat => Int32.ofInt (g j)) = vp_cell cA (n, if t = 2 then .inr (.inl fun j : Nat => Int64.ofInt (f j)) else .inl fun j : Nat => Int32.ofInt (f j)) := by
      intro cA
      split
      · simp only [vp_cell_l, arrV]
        congr 2
        funext j
        rw [h _ (by omega) (by omega)]
      · simp only [vp_cell_i, arrV]
        congr 2
        funext j
        rw [h _ (by omega) (by omega)]
    show H[ad i]? = some (vp_cell (G.2.1 t) _)
    rw [e9]
    exact h1
  · rw [List.getElem?_set_ne (Ne.symm hi)] at hq
    exact hst.1 i q hq
set_option maxRecDepth 10000 in
set_option maxHeartbeats 1000000 in
theorem k_X8_copyFrom (L T F L2 T2 F2 : Int → Int) (lc cc sg mn lc2 cc2 sg2 mn2 : Int) (hm : mn2 = 0 ∨ mn2 = 1) (hL : ∀ j : Int, 0 ≤ j → j < 200 → 0 ≤ L2 j ∧ L2 j < 65536) : zMet q_X8_copyFrom 1 0 0 [zR 0, zR 4] (wSh L T F lc cc sg mn ++ [zO 4 [zR 5, zR 6, zI lc2, zR 7, zI cc2, zI sg2, zI mn2], zA 1 200 L2, zA 0 202 T2, zA 0 200 F2]) (zD none (wSh L2 T2 F2 lc2 cc2 sg2 mn2 ++ [zO 4 [zR 5, zR 6, zI lc2, zR 7, zI cc2, zI sg2, zI mn2], zA 1 200 L2, zA 0 202 T2, zA 0 200 F2])) := by
  refine z_introF (ls := [(0, _), (1, _)]) (by decide +kernel) rfl (fun _ _ => rfl) (fun _ _ => Nat.le_of_ble_eq_true rfl) ?_
  refine wa_aload_n (pc' := 1) dX8_copyFrom_0 rfl rfl rfl ?_
  refine wa_getfield (pc' := 4) (j := 0) zc_X8 lk_X8_9 dX8_copyFrom_1 rfl (by decide) rfl rfl ?_
  refine wa_iconst (pc' := 5) dX8_copyFrom_4 rfl ?_
  refine wa_aload_n (pc' := 6) dX8_copyFrom_5 rfl rfl rfl ?_
  refine wa_getfield (pc' := 9) (j := 0) zc_X8 lk_X8_9 dX8_copyFrom_6 rfl (by decide) rfl rfl ?_
  refine wa_iconst (pc' := 10) dX8_copyFrom_9 rfl ?_
  refine wa_sipush (pc' := 13) dX8_copyFrom_10 rfl rfl ?_
  refine wa_copyC (pc' := 16) (w' := [_, zA _ _ _, _, _, _, _, _, _]) dX8_copyFrom_13 rfl lmc_X8_26 zl_nat zl_sta zl_sys rfl rfl (by omega) (by omega) (by omega) (by omega) (by omega) (by decide) (by decide) (fun j h1 h2 => hL j (by omega) (by omega)) (by decide) (Nat.le_of_ble_eq_true rfl) rfl ?_
  refine wa_aload_n (pc' := 17) dX8_copyFrom_16 rfl rfl rfl ?_
  refine wa_getfield (pc' := 20) (j := 1) zc_X8 lk_X8_15 dX8_copyFrom_17 rfl (by decide) rfl rfl ?_
  refine wa_iconst (pc' := 21) dX8_copyFrom_20 rfl ?_
  refine wa_aload_n (pc' := 22) dX8_copyFrom_21 rfl rfl rfl ?_
  refine wa_getfield (pc' := 25) (j := 1) zc_X8 lk_X8_15 dX8_copyFrom_22 rfl (by decide) rfl rfl ?_
  refine wa_iconst (pc' := 26) dX8_copyFrom_25 rfl ?_
  refine wa_sipush (pc' := 29) dX8_copyFrom_26 rfl rfl ?_
  refine wa_copyI (pc' := 32) (w' := [_, _, zA _ _ _, _, _, _, _, _]) dX8_copyFrom_29 rfl lmc_X8_26 zl_nat zl_sta zl_sys rfl rfl (by omega) (by omega) (by omega) (by omega) (by omega) (by decide) (by decide) (by decide) (Nat.le_of_ble_eq_true rfl) rfl ?_
  refine wa_aload_n (pc' := 33) dX8_copyFrom_32 rfl rfl rfl ?_
  refine wa_getfield (pc' := 36) (j := 3) zc_X8 lk_X8_23 dX8_copyFrom_33 rfl (by decide) rfl rfl ?_
  refine wa_iconst (pc' := 37) dX8_copyFrom_36 rfl ?_
  refine wa_aload_n (pc' := 38) dX8_copyFrom_37 rfl rfl rfl ?_
  refine wa_getfield (pc' := 41) (j := 3) zc_X8 lk_X8_23 dX8_copyFrom_38 rfl (by decide) rfl rfl ?_
  refine wa_iconst (pc' := 42) dX8_copyFrom_41 rfl ?_
  refine wa_sipush (pc' := 45) dX8_copyFrom_42 rfl rfl ?_
  refine wa_copyI (pc' := 48) (w' := [_, _, _, zA _ _ _, _, _, _, _]) dX8_copyFrom_45 rfl lmc_X8_26 zl_nat zl_sta zl_sys rfl rfl (by omega) (by omega) (by omega) (by omega) (by omega) (by decide) (by decide) (by decide) (Nat.le_of_ble_eq_true rfl) rfl ?_
  refine wa_eqA 1 1 200 L2 rfl (fun j h1 h2 => by unfold zcpy; rw [if_pos (by omega)]; congr 1; omega) (w' := [_, _, _, _, _, _, _, _]) rfl ?_
  refine wa_eqA 2 0 202 T2 rfl (fun j h1 h2 => by unfold zcpy; rw [if_pos (by omega)]; congr 1; omega) (w' := [_, _, _, _, _, _, _, _]) rfl ?_
  refine wa_eqA 3 0 200 F2 rfl (fun j h1 h2 => by unfold zcpy; rw [if_pos (by omega)]; congr 1; omega) (w' := [_, _, _, _, _, _, _, _]) rfl ?_
  refine wa_aload_n (pc' := 49) dX8_copyFrom_48 rfl rfl rfl ?_
  refine wa_aload_n (pc' := 50) dX8_copyFrom_49 rfl rfl rfl ?_
  refine wa_getfield (pc' := 53) (j := 2) zc_X8 lk_X8_19 dX8_copyFrom_50 rfl (by decide) rfl rfl ?_
  refine wa_putfield (pc' := 56) (j := 2) (w' := [zO _ [_, _, _, _, _, _, _], _, _, _, _, _, _, _]) zc_X8 lk_X8_19 dX8_copyFrom_53 rfl (by decide) rfl rfl (Nat.le_of_ble_eq_true rfl) True.intro rfl ?_
  refine wa_aload_n (pc' := 57) dX8_copyFrom_56 rfl rfl rfl ?_
  refine wa_aload_n (pc' := 58) dX8_copyFrom_57 rfl rfl rfl ?_
  refine wa_getfield (pc' := 61) (j := 4) zc_X8 lk_X8_32 dX8_copyFrom_58 rfl (by decide) rfl rfl ?_
  refine wa_putfield (pc' := 64) (j := 4) (w' := [zO _ [_, _, _, _, _, _, _], _, _, _, _, _, _, _]) zc_X8 lk_X8_32 dX8_copyFrom_61 rfl (by decide) rfl rfl (Nat.le_of_ble_eq_true rfl) True.intro rfl ?_
  refine wa_aload_n (pc' := 65) dX8_copyFrom_64 rfl rfl rfl ?_
  refine wa_aload_n (pc' := 66) dX8_copyFrom_65 rfl rfl rfl ?_
  refine wa_getfield (pc' := 69) (j := 5) zc_X8 lk_X8_35 dX8_copyFrom_66 rfl (by decide) rfl rfl ?_
  refine wa_putfield (pc' := 72) (j := 5) (w' := [zO _ [_, _, _, _, _, _, _], _, _, _, _, _, _, _]) zc_X8 lk_X8_35 dX8_copyFrom_69 rfl (by decide) rfl rfl (Nat.le_of_ble_eq_true rfl) True.intro rfl ?_
  refine wa_aload_n (pc' := 73) dX8_copyFrom_72 rfl rfl rfl ?_
  refine wa_aload_n (pc' := 74) dX8_copyFrom_73 rfl rfl rfl ?_
  refine wa_getfield (pc' := 77) (j := 6) zc_X8 lk_X8_38 dX8_copyFrom_74 rfl (by decide) rfl rfl ?_
  refine wa_putfield (pc' := 80) (j := 6) (w' := [zO _ [_, _, _, _, _, _, _], _, _, _, _, _, _, _]) zc_X8 lk_X8_38 dX8_copyFrom_77 rfl (by decide) rfl rfl (Nat.le_of_ble_eq_true rfl) (by show _ ∨ _; omega) rfl ?_
  refine wa_vret dX8_copyFrom_80 rfl (by decide) (by decide) ?_
  exact ⟨rfl, rfl⟩

set_option maxRecDepth 10000 in
set_option maxHeartbeats 1000000 in
theorem k_X8_spellField (L T F : Int → Int) (lc cc sg mn : Int) (i f se si : Int) (hi : 0 ≤ i ∧ i < 40) (hf : 0 ≤ f ∧ f < 5) (hse : -11 ≤ se ∧ se ≤ 11) (hsi : si = 0 ∨ si = 1) (hsg : -6 ≤ sg ∧ sg ≤ 6) (hF : -1000 ≤ F (i * 5 + f) ∧ F (i * 5 + f) ≤ 1000) : zMet q_X8_spellField 3 0 0 [zR 0, zI i, zI f, zI se, zI si] (wSh L T F lc cc sg mn) (zD (some (zI (spC (F (i * 5 + f)) se sg si))) (wSh L T (spU F (i * 5 + f) se sg si) lc cc sg mn)) := by
  refine z_introF (ls := [(0, _), (1, _), (2, _), (3, _), (4, _)]) (by decide +kernel) rfl (fun _ _ => rfl) (fun _ _ => Nat.le_of_ble_eq_true rfl) ?_
  have hM := Int.emod_nonneg (7 * F (i * 5 + f) + se) (show (12 : Int) ≠ 0 by decide)
  have hM2 := Int.emod_lt_of_pos (7 * F (i * 5 + f) + se) (show (0 : Int) < 12 by decide)
  have hS : -1000 ≤ spP (F (i * 5 + f)) se sg si ∧ spP (F (i * 5 + f)) se sg si ≤ 1000 := by unfold spP spl plf; split <;> omega
  refine wa_aload_n (pc' := 1) dX8_spellField_0 rfl rfl rfl ?_
  refine wa_iload_n (pc' := 2) dX8_spellField_1 rfl rfl rfl ?_
  refine wa_iload_n (pc' := 3) dX8_spellField_2 rfl rfl rfl ?_
  refine wa_rV (pc' := 6) (k_X8_get _ _ _ _ _ _ _ _ _ (by omega) (by omega)) ok_X8_get lm_X8_69 dX8_spellField_3 rfl [0, 1, 2, 3] rfl (by decide) rfl rfl rfl rfl rfl (by decide) (Nat.le_of_ble_eq_true rfl) rfl (by decide) (by decide) rfl ?_
  refine wa_istore (pc' := 8) (ls' := [(5, _), (0, _), (1, _), (2, _), (3, _), (4, _)]) dX8_spellField_6 rfl (by decide) rfl ?_
  refine wa_iload (pc' := 10) dX8_spellField_8 rfl rfl ?_
  refine wa_bipush (pc' := 12) dX8_spellField_10 rfl rfl ?_
  refine wa_icmp_ne (tgt := 17) (pc' := 15) dX8_spellField_12 (by decide) rfl (by omega) (by omega) (fun c12 => ?_) (fun c12 => ?_)
  · refine wa_iload (pc' := 19) dX8_spellField_17 rfl rfl ?_
    refine wa_iload_n (pc' := 20) dX8_spellField_19 rfl rfl rfl ?_
    refine wa_dS (pc' := 23) (w' := [_, _, _, _]) (k_X4_raised _ _ (by omega) (by omega)) ok_X4_raised lm_X8_113 dX8_spellField_20 rfl [] rfl (by decide) rfl rfl (by decide) (Nat.le_of_ble_eq_true rfl) rfl (by decide) (by decide) rfl rfl rfl ?_
    refine wa_istore (pc' := 25) (ls' := [(6, _), (5, _), (0, _), (1, _), (2, _), (3, _), (4, _)]) dX8_spellField_23 rfl (by decide) rfl ?_
    refine wa_iload (pc' := 27) dX8_spellField_25 rfl rfl ?_
    refine wa_aload_n (pc' := 28) dX8_spellField_27 rfl rfl rfl ?_
    refine wa_getfield (pc' := 31) (j := 5) zc_X8 lk_X8_35 dX8_spellField_28 rfl (by decide) rfl rfl ?_
    refine wa_iload (pc' := 33) dX8_spellField_31 rfl rfl ?_
    refine wa_dS (pc' := 36) (w' := [_, _, _, _]) (k_X4_spelled ((7 * F (i * 5 + f) + se) % 12) sg si (by omega) (by omega) (by omega)) ok_X4_spelled lm_X8_116 dX8_spellField_33 rfl [] rfl (by decide) rfl rfl (by decide) (Nat.le_of_ble_eq_true rfl) rfl (by decide) (by decide) rfl rfl rfl ?_
    show Wa _ _ _ _ _ _ _ _ [zI (spP (F (i * 5 + f)) se sg si)] [_, _, _, _] _ _
    refine wa_istore (pc' := 38) (ls' := [(7, _), (6, _), (5, _), (0, _), (1, _), (2, _), (3, _), (4, _)]) dX8_spellField_36 rfl (by decide) rfl ?_
    refine wa_aload_n (pc' := 39) dX8_spellField_38 rfl rfl rfl ?_
    refine wa_iload_n (pc' := 40) dX8_spellField_39 rfl rfl rfl ?_
    refine wa_iload_n (pc' := 41) dX8_spellField_40 rfl rfl rfl ?_
    refine wa_iload (pc' := 43) dX8_spellField_41 rfl rfl ?_
    refine wa_dV (pc' := 46) (w' := [zO _ [_, _, _, _, _, _, _], zA _ _ _, zA _ _ _, zA _ _ _]) (k_X8_set _ _ _ _ _ _ _ _ _ _ (by omega) (by omega)) ok_X8_set lm_X8_46 dX8_spellField_43 rfl [0, 1, 2, 3] rfl (by decide) rfl rfl rfl rfl rfl (by decide) (Nat.le_of_ble_eq_true rfl) rfl (by decide) (by decide) rfl rfl rfl ?_
    refine wa_iload (pc' := 48) dX8_spellField_46 rfl rfl ?_
    refine wa_iload (pc' := 50) dX8_spellField_48 rfl rfl ?_
    refine wa_icmp_ne (tgt := 57) (pc' := 53) dX8_spellField_50 (by decide) rfl (by omega) (by omega) (fun c50 => ?_) (fun c50 => ?_)
    · refine wa_iconst (pc' := 58) dX8_spellField_57 rfl ?_
      refine wa_iret dX8_spellField_58 rfl (by decide) (by decide) ?_
      first | exact zD_i (by rw [spC, if_pos (by omega)] <;> rfl) (by rw [spU, if_pos (by omega)] <;> rfl) | exact zD_i (by rw [spC, if_neg (by omega), if_pos (by omega)] <;> rfl) (by rw [spU, if_neg (by omega)] <;> rfl) | exact zD_i (by rw [spC, if_neg (by omega), if_neg (by omega)] <;> rfl) (by rw [spU, if_neg (by omega)] <;> rfl)
    · refine wa_iconst (pc' := 54) dX8_spellField_53 rfl ?_
      refine wa_goto (pc' := 58) dX8_spellField_54 (by decide) ?_
      refine wa_iret dX8_spellField_58 rfl (by decide) (by decide) ?_
      first | exact zD_i (by rw [spC, if_pos (by omega)] <;> rfl) (by rw [spU, if_pos (by omega)] <;> rfl) | exact zD_i (by rw [spC, if_neg (by omega), if_pos (by omega)] <;> rfl) (by rw [spU, if_neg (by omega)] <;> rfl) | exact zD_i (by rw [spC, if_neg (by omega), if_neg (by omega)] <;> rfl) (by rw [spU, if_neg (by omega)] <;> rfl)
  · refine wa_iconst (pc' := 16) dX8_spellField_15 rfl ?_
    refine wa_iret dX8_spellField_16 rfl (by decide) (by decide) ?_
    first | exact zD_i (by rw [spC, if_pos (by omega)] <;> rfl) (by rw [spU, if_pos (by omega)] <;> rfl) | exact zD_i (by rw [spC, if_neg (by omega), if_pos (by omega)] <;> rfl) (by rw [spU, if_neg (by omega)] <;> rfl) | exact zD_i (by rw [spC, if_neg (by omega), if_neg (by omega)] <;> rfl) (by rw [spU, if_neg (by omega)] <;> rfl)

theorem spU_bd {F : Int → Int} {j se sg si : Int} (hsg : -6 ≤ sg ∧ sg ≤ 6) (hF : ∀ k : Int, 0 ≤ k → k < 200 → -1000 ≤ F k ∧ F k ≤ 1000) : ∀ k : Int, 0 ≤ k → k < 200 → -1000 ≤ spU F j se sg si k ∧ spU F j se sg si k ≤ 1000 := by
  intro k h0 h1
  unfold spU
  split
  · exact hF k h0 h1
  · unfold zup
    split
    · unfold spP spl plf; split <;> omega
    · exact hF k h0 h1
set_option maxRecDepth 10000 in
set_option maxHeartbeats 1000000 in
theorem l_spell (L T : Int → Int) (lc cc sg mn se si : Int) (hse : -11 ≤ se ∧ se ≤ 11) (hsi : si = 0 ∨ si = 1) (hsg : -6 ≤ sg ∧ sg ≤ 6) (hc : 0 ≤ cc ∧ cc ≤ 40) : ∀ (m : Nat) (i n : Int) (F : Int → Int), 0 ≤ i → i + m = cc → (∀ j : Int, 0 ≤ j → j < 200 → -1000 ≤ F j ∧ F j ≤ 1000) → Wa q_X8_spell 4 0 0 4 (zD (some (zI (spR se sg si m i n F).1)) (wSh L T (spR se sg si m i n F).2 lc cc sg mn)) 5 [(4, zI i), (3, zI n), (0, zR 0), (1, zI se), (2, zI si)] [] (wSh L T F lc cc sg mn) 0 0 := by
  intro m
  induction m with
  | zero =>
    intro i n F h0 hm hF
    refine wa_iload (pc' := 7) dX8_spell_5 rfl rfl ?_
    refine wa_aload_n (pc' := 8) dX8_spell_7 rfl rfl rfl ?_
    refine wa_getfield (pc' := 11) (j := 4) zc_X8 lk_X8_32 dX8_spell_8 rfl (by decide) rfl rfl ?_
    refine wa_icmp_ge (tgt := 44) (pc' := 14) dX8_spell_11 (by decide) rfl (by omega) (by omega) (fun c11 => ?_) (fun c11 => ?_)
    · refine wa_iload_n (pc' := 45) dX8_spell_44 rfl rfl rfl ?_
      refine wa_iret dX8_spell_45 rfl (by decide) (by decide) ?_
      exact ⟨rfl, rfl⟩
    · exact absurd c11 (by omega)
  | succ m ih =>
    intro i n F h0 hm hF
    have hb1 := hF (i * 5 + 2) (by omega) (by omega)
    have hF1 := spU_bd (j := i * 5 + 2) (se := se) (si := si) hsg hF
    have hb2 := hF1 (i * 5 + 4) (by omega) (by omega)
    refine wa_iload (pc' := 7) dX8_spell_5 rfl rfl ?_
    refine wa_aload_n (pc' := 8) dX8_spell_7 rfl rfl rfl ?_
    refine wa_getfield (pc' := 11) (j := 4) zc_X8 lk_X8_32 dX8_spell_8 rfl (by decide) rfl rfl ?_
    refine wa_icmp_ge (tgt := 44) (pc' := 14) dX8_spell_11 (by decide) rfl (by omega) (by omega) (fun c11 => ?_) (fun c11 => ?_)
    · exact absurd c11 (by omega)
    · refine wa_iload_n (pc' := 15) dX8_spell_14 rfl rfl rfl ?_
      refine wa_aload_n (pc' := 16) dX8_spell_15 rfl rfl rfl ?_
      refine wa_iload (pc' := 18) dX8_spell_16 rfl rfl ?_
      refine wa_iconst (pc' := 19) dX8_spell_18 rfl ?_
      refine wa_iload_n (pc' := 20) dX8_spell_19 rfl rfl rfl ?_
      refine wa_iload_n (pc' := 21) dX8_spell_20 rfl rfl rfl ?_
      refine wa_dV (pc' := 24) (w' := [zO _ [_, _, _, _, _, _, _], zA _ _ _, zA _ _ _, zA _ _ _]) (k_X8_spellField _ _ _ _ _ _ _ _ _ _ _ (by omega) (by omega) (by omega) (by omega) (by omega) (by assumption)) ok_X8_spellField lm_X8_104 dX8_spell_21 rfl [0, 1, 2, 3] rfl (by decide) rfl rfl rfl rfl rfl (by decide) (Nat.le_of_ble_eq_true rfl) rfl (by decide) (by decide) rfl rfl rfl ?_
      refine wa_iadd (pc' := 25) dX8_spell_24 rfl ?_
      refine wa_istore_n (pc' := 26) (ls' := [(3, _), (4, _), (0, _), (1, _), (2, _)]) dX8_spell_25 rfl rfl (by decide) rfl ?_
      refine wa_iload_n (pc' := 27) dX8_spell_26 rfl rfl rfl ?_
      refine wa_aload_n (pc' := 28) dX8_spell_27 rfl rfl rfl ?_
      refine wa_iload (pc' := 30) dX8_spell_28 rfl rfl ?_
      refine wa_iconst (pc' := 31) dX8_spell_30 rfl ?_
      refine wa_iload_n (pc' := 32) dX8_spell_31 rfl rfl rfl ?_
      refine wa_iload_n (pc' := 33) dX8_spell_32 rfl rfl rfl ?_
      refine wa_dV (pc' := 36) (w' := [zO _ [_, _, _, _, _, _, _], zA _ _ _, zA _ _ _, zA _ _ _]) (k_X8_spellField _ _ _ _ _ _ _ _ _ _ _ (by omega) (by omega) (by omega) (by omega) (by omega) (by assumption)) ok_X8_spellField lm_X8_104 dX8_spell_33 rfl [0, 1, 2, 3] rfl (by decide) rfl rfl rfl rfl rfl (by decide) (Nat.le_of_ble_eq_true rfl) rfl (by decide) (by decide) rfl rfl rfl ?_
      refine wa_iadd (pc' := 37) dX8_spell_36 rfl ?_
      refine wa_istore_n (pc' := 38) (ls' := [(3, _), (4, _), (0, _), (1, _), (2, _)]) dX8_spell_37 rfl rfl (by decide) rfl ?_
      refine wa_iinc (pc' := 41) (ls' := [(4, _), (3, _), (0, _), (1, _), (2, _)]) dX8_spell_38 rfl rfl (by decide) rfl ?_
      refine wa_goto (pc' := 5) dX8_spell_41 (by decide) ?_
      exact ih (i + 1) (n + spC (F (i * 5 + 2)) se sg si + spC (spU F (i * 5 + 2) se sg si (i * 5 + 4)) se sg si) (spI F i se sg si) (by omega) (by omega) (spU_bd hsg hF1)

set_option maxRecDepth 10000 in
set_option maxHeartbeats 1000000 in
theorem k_X8_spell (L T F : Int → Int) (lc cc sg mn : Int) (se si : Int) (hse : -11 ≤ se ∧ se ≤ 11) (hsi : si = 0 ∨ si = 1) (hsg : -6 ≤ sg ∧ sg ≤ 6) (hc : 0 ≤ cc ∧ cc ≤ 40) (hF : ∀ j : Int, 0 ≤ j → j < 200 → -1000 ≤ F j ∧ F j ≤ 1000) : zMet q_X8_spell 4 0 0 [zR 0, zI se, zI si] (wSh L T F lc cc sg mn) (zD (some (zI (spR se sg si cc.toNat 0 0 F).1)) (wSh L T (spR se sg si cc.toNat 0 0 F).2 lc cc sg mn)) := by
  refine z_introF (ls := [(0, _), (1, _), (2, _)]) (by decide +kernel) rfl (fun _ _ => rfl) (fun _ _ => Nat.le_of_ble_eq_true rfl) ?_
  refine wa_iconst (pc' := 1) dX8_spell_0 rfl ?_
  refine wa_istore_n (pc' := 2) (ls' := [(3, _), (0, _), (1, _), (2, _)]) dX8_spell_1 rfl rfl (by decide) rfl ?_
  refine wa_iconst (pc' := 3) dX8_spell_2 rfl ?_
  refine wa_istore (pc' := 5) (ls' := [(4, _), (3, _), (0, _), (1, _), (2, _)]) dX8_spell_3 rfl (by decide) rfl ?_
  exact l_spell L T lc cc sg mn se si hse hsi hsg hc cc.toNat 0 0 F (by omega) (by omega) hF

set_option maxRecDepth 10000 in
set_option maxHeartbeats 1000000 in
theorem l_addTo3 (L T F : Int → Int) (lc cc sg mn : Int) (fp R : Int) (hc : 0 ≤ cc ∧ cc ≤ 40) (hF : ∀ j : Int, 0 ≤ j → j < 200 → -1000 ≤ F j ∧ F j ≤ 1000) (i : Int) (hi : 0 ≤ i ∧ i < cc) (kk : ∀ (x : Int) (b6 : Int), x = fpA (fun f => F (i * 5 + f)) 5 0 fp → Wa q_X8_addTo 2 0 0 4 (zD (some (zJ R)) (wSh L T F lc cc sg mn)) 123 [(6, zI b6), (3, zJ x), (5, zI i), (0, zR 0)] [] (wSh L T F lc cc sg mn) 0 0) : ∀ (m : Nat) (f x : Int), 0 ≤ f → f + m = 5 → fpA (fun f => F (i * 5 + f)) m f x = fpA (fun f => F (i * 5 + f)) 5 0 fp → Wa q_X8_addTo 2 0 0 4 (zD (some (zJ R)) (wSh L T F lc cc sg mn)) 95 [(6, zI f), (3, zJ x), (5, zI i), (0, zR 0)] [] (wSh L T F lc cc sg mn) 0 0 := by
  intro m
  induction m with
  | zero =>
    intro f x h0 hm hx
    refine wa_iload (pc' := 97) dX8_addTo_95 rfl rfl ?_
    refine wa_iconst (pc' := 98) dX8_addTo_97 rfl ?_
    refine wa_icmp_ge (tgt := 123) (pc' := 101) dX8_addTo_98 (by decide) rfl (by omega) (by omega) (fun c98 => ?_) (fun c98 => ?_)
    · exact kk x f hx
    · exact absurd c98 (by omega)
  | succ m ih =>
    intro f x h0 hm hx
    have hb := hF (i * 5 + f) (by omega) (by omega)
    refine wa_iload (pc' := 97) dX8_addTo_95 rfl rfl ?_
    refine wa_iconst (pc' := 98) dX8_addTo_97 rfl ?_
    refine wa_icmp_ge (tgt := 123) (pc' := 101) dX8_addTo_98 (by decide) rfl (by omega) (by omega) (fun c98 => ?_) (fun c98 => ?_)
    · exact absurd c98 (by omega)
    · refine wa_ldc2 (pc' := 104) (n := 31) dX8_addTo_101 rfl kl_X8_108 ?_
      refine wa_lload_n (pc' := 105) dX8_addTo_104 rfl rfl rfl ?_
      refine wa_lmul (pc' := 106) dX8_addTo_105 rfl ?_
      refine wa_aload_n (pc' := 107) dX8_addTo_106 rfl rfl rfl ?_
      refine wa_iload (pc' := 109) dX8_addTo_107 rfl rfl ?_
      refine wa_iload (pc' := 111) dX8_addTo_109 rfl rfl ?_
      refine wa_rV (pc' := 114) (k_X8_get _ _ _ _ _ _ _ _ _ (by omega) (by omega)) ok_X8_get lm_X8_69 dX8_addTo_111 rfl [0, 1, 2, 3] rfl (by decide) rfl rfl rfl rfl rfl (by decide) (Nat.le_of_ble_eq_true rfl) rfl (by decide) (by decide) rfl ?_
      refine wa_i2l (pc' := 115) dX8_addTo_114 rfl (by omega) ?_
      refine wa_ladd (pc' := 116) dX8_addTo_115 rfl ?_
      refine wa_lstore_n (pc' := 117) (ls' := [(3, _), (6, _), (5, _), (0, _)]) dX8_addTo_116 rfl rfl (by decide) rfl ?_
      refine wa_iinc (pc' := 120) (ls' := [(6, _), (3, _), (5, _), (0, _)]) dX8_addTo_117 rfl rfl (by decide) rfl ?_
      refine wa_goto (pc' := 95) dX8_addTo_120 (by decide) ?_
      exact ih (f + 1) _ (by omega) (by omega) hx

set_option maxRecDepth 10000 in
set_option maxHeartbeats 1000000 in
theorem l_addTo2 (L T F : Int → Int) (lc cc sg mn : Int) (fp R : Int) (hc : 0 ≤ cc ∧ cc ≤ 40) (hF : ∀ j : Int, 0 ≤ j → j < 200 → -1000 ≤ F j ∧ F j ≤ 1000) : ∀ (m : Nat) (i x b6 : Int), 0 ≤ i → i + m = cc → fpC (fun i f => F (i * 5 + f)) m i x = R → Wa q_X8_addTo 2 0 0 4 (zD (some (zJ R)) (wSh L T F lc cc sg mn)) 83 [(5, zI i), (3, zJ x), (0, zR 0)] [] (wSh L T F lc cc sg mn) 0 0 := by
  intro m
  induction m with
  | zero =>
    intro i x b6 h0 hm hx
    refine wa_iload (pc' := 85) dX8_addTo_83 rfl rfl ?_
    refine wa_aload_n (pc' := 86) dX8_addTo_85 rfl rfl rfl ?_
    refine wa_getfield (pc' := 89) (j := 4) zc_X8 lk_X8_32 dX8_addTo_86 rfl (by decide) rfl rfl ?_
    refine wa_icmp_ge (tgt := 129) (pc' := 92) dX8_addTo_89 (by decide) rfl (by omega) (by omega) (fun c89 => ?_) (fun c89 => ?_)
    · refine wa_lload_n (pc' := 130) dX8_addTo_129 rfl rfl rfl ?_
      refine wa_lret dX8_addTo_130 rfl (by decide) (by decide) ?_
      exact zD_i (by rw [← hx]; rfl) rfl
    · exact absurd c89 (by omega)
  | succ m ih =>
    intro i x b6 h0 hm hx
    have hk : ∀ (y : Int) (b6 : Int), y = fpA (fun f => F (i * 5 + f)) 5 0 x → Wa q_X8_addTo 2 0 0 4 (zD (some (zJ R)) (wSh L T F lc cc sg mn)) 123 [(6, zI b6), (3, zJ y), (5, zI i), (0, zR 0)] [] (wSh L T F lc cc sg mn) 0 0 := by
      intro y b6 hy
      refine wa_iinc (pc' := 126) (ls' := [(5, _), (6, _), (3, _), (0, _)]) dX8_addTo_123 rfl rfl (by decide) rfl ?_
      refine wa_goto (pc' := 83) dX8_addTo_126 (by decide) ?_
      refine wa_sub [0, 2, 3] rfl ?_
      exact ih (i + 1) y 0 (by omega) (by omega) (by rw [hy]; exact hx)
    refine wa_iload (pc' := 85) dX8_addTo_83 rfl rfl ?_
    refine wa_aload_n (pc' := 86) dX8_addTo_85 rfl rfl rfl ?_
    refine wa_getfield (pc' := 89) (j := 4) zc_X8 lk_X8_32 dX8_addTo_86 rfl (by decide) rfl rfl ?_
    refine wa_icmp_ge (tgt := 129) (pc' := 92) dX8_addTo_89 (by decide) rfl (by omega) (by omega) (fun c89 => ?_) (fun c89 => ?_)
    · exact absurd c89 (by omega)
    · refine wa_iconst (pc' := 93) dX8_addTo_92 rfl ?_
      refine wa_istore (pc' := 95) (ls' := [(6, _), (5, _), (3, _), (0, _)]) dX8_addTo_93 rfl (by decide) rfl ?_
      refine wa_sub [0, 2, 1, 3] rfl ?_
      exact l_addTo3 L T F lc cc sg mn x R hc hF i ⟨h0, by omega⟩ hk 5 0 x (by omega) (by omega) rfl

set_option maxRecDepth 10000 in
set_option maxHeartbeats 1000000 in
theorem l_addTo1 (L T F : Int → Int) (lc cc sg mn : Int) (fp R : Int) (hT : ∀ k : Int, 0 ≤ k → k ≤ 201 → 0 ≤ T k ∧ T k ≤ 200) (l : Int) (hl : 0 ≤ l ∧ l < lc ∧ lc ≤ 201) (hL : ∀ k : Int, 0 ≤ ltr L T l k + 1 ∧ ltr L T l k < 65536) (kk : ∀ (x : Int) (b7 : Int), x = fpA (ltr L T l) (T (l + 1) - T l).toNat 0 fp → Wa q_X8_addTo 2 0 0 4 (zD (some (zJ R)) (wSh L T F lc cc sg mn)) 74 [(7, zI b7), (3, zJ x), (6, zI (T (l + 1) - T l)), (5, zI l), (0, zR 0)] [] (wSh L T F lc cc sg mn) 0 0) : ∀ (m : Nat) (k x : Int), 0 ≤ k ∧ k ≤ 1000 → (T (l + 1) - T l - k).toNat = m → fpA (ltr L T l) m k x = fpA (ltr L T l) (T (l + 1) - T l).toNat 0 fp → Wa q_X8_addTo 2 0 0 4 (zD (some (zJ R)) (wSh L T F lc cc sg mn)) 45 [(7, zI k), (3, zJ x), (6, zI (T (l + 1) - T l)), (5, zI l), (0, zR 0)] [] (wSh L T F lc cc sg mn) 0 0 := by
  have t1 := hT l (by omega) (by omega)
  have t2 := hT (l + 1) (by omega) (by omega)
  intro m
  induction m with
  | zero =>
    intro k x h0 hm hx
    refine wa_iload (pc' := 47) dX8_addTo_45 rfl rfl ?_
    refine wa_iload (pc' := 49) dX8_addTo_47 rfl rfl ?_
    refine wa_icmp_ge (tgt := 74) (pc' := 52) dX8_addTo_49 (by decide) rfl (by omega) (by omega) (fun c49 => ?_) (fun c49 => ?_)
    · exact kk x k hx
    · exact absurd c49 (by omega)
  | succ m ih =>
    intro k x h0 hm hx
    have hb := hL k
    refine wa_iload (pc' := 47) dX8_addTo_45 rfl rfl ?_
    refine wa_iload (pc' := 49) dX8_addTo_47 rfl rfl ?_
    refine wa_icmp_ge (tgt := 74) (pc' := 52) dX8_addTo_49 (by decide) rfl (by omega) (by omega) (fun c49 => ?_) (fun c49 => ?_)
    · exact absurd c49 (by omega)
    · refine wa_ldc2 (pc' := 55) (n := 31) dX8_addTo_52 rfl kl_X8_108 ?_
      refine wa_lload_n (pc' := 56) dX8_addTo_55 rfl rfl rfl ?_
      refine wa_lmul (pc' := 57) dX8_addTo_56 rfl ?_
      refine wa_aload_n (pc' := 58) dX8_addTo_57 rfl rfl rfl ?_
      refine wa_iload (pc' := 60) dX8_addTo_58 rfl rfl ?_
      refine wa_iload (pc' := 62) dX8_addTo_60 rfl rfl ?_
      refine wa_rV (pc' := 65) (k_X8_letterAt _ _ _ _ _ _ _ _ _ (by omega) (by omega) (by assumption)) ok_X8_letterAt lm_X8_110 dX8_addTo_62 rfl [0, 1, 2, 3] rfl (by decide) rfl rfl rfl rfl rfl (by decide) (Nat.le_of_ble_eq_true rfl) rfl (by decide) (by decide) rfl ?_
      refine wa_i2l (pc' := 66) dX8_addTo_65 rfl (by omega) ?_
      refine wa_ladd (pc' := 67) dX8_addTo_66 rfl ?_
      refine wa_lstore_n (pc' := 68) (ls' := [(3, _), (7, _), (6, _), (5, _), (0, _)]) dX8_addTo_67 rfl rfl (by decide) rfl ?_
      refine wa_iinc (pc' := 71) (ls' := [(7, _), (3, _), (6, _), (5, _), (0, _)]) dX8_addTo_68 rfl rfl (by decide) rfl ?_
      refine wa_goto (pc' := 45) dX8_addTo_71 (by decide) ?_
      exact ih (k + 1) _ ⟨by omega, by omega⟩ (by omega) hx

set_option maxRecDepth 10000 in
set_option maxHeartbeats 1000000 in
theorem l_addTo0 (L T F : Int → Int) (lc cc sg mn : Int) (fp R : Int) (hT : ∀ k : Int, 0 ≤ k → k ≤ 201 → 0 ≤ T k ∧ T k ≤ 200) (hlc : lc ≤ 201) (hL : ∀ l k : Int, 0 ≤ l → l < lc → 0 ≤ ltr L T l k + 1 ∧ ltr L T l k < 65536) (kk : ∀ (x : Int) (b5 : Int), x = fpB (fun l => T (l + 1) - T l) (ltr L T) lc.toNat 0 fp → Wa q_X8_addTo 2 0 0 4 (zD (some (zJ R)) (wSh L T F lc cc sg mn)) 80 [(5, zI b5), (3, zJ x), (0, zR 0)] [] (wSh L T F lc cc sg mn) 0 0) : ∀ (m : Nat) (l x : Int), 0 ≤ l → l + m = lc → fpB (fun l => T (l + 1) - T l) (ltr L T) m l x = fpB (fun l => T (l + 1) - T l) (ltr L T) lc.toNat 0 fp → Wa q_X8_addTo 2 0 0 4 (zD (some (zJ R)) (wSh L T F lc cc sg mn)) 15 [(5, zI l), (3, zJ x), (0, zR 0)] [] (wSh L T F lc cc sg mn) 0 0 := by
  intro m
  induction m with
  | zero =>
    intro l x h0 hm hx
    refine wa_iload (pc' := 17) dX8_addTo_15 rfl rfl ?_
    refine wa_aload_n (pc' := 18) dX8_addTo_17 rfl rfl rfl ?_
    refine wa_getfield (pc' := 21) (j := 2) zc_X8 lk_X8_19 dX8_addTo_18 rfl (by decide) rfl rfl ?_
    refine wa_icmp_ge (tgt := 80) (pc' := 24) dX8_addTo_21 (by decide) rfl (by omega) (by omega) (fun c21 => ?_) (fun c21 => ?_)
    · exact kk x l hx
    · exact absurd c21 (by omega)
  | succ m ih =>
    intro l x h0 hm hx
    have t1 := hT l (by omega) (by omega)
    have t2 := hT (l + 1) (by omega) (by omega)
    have hk : ∀ (y : Int) (b7 : Int), y = fpA (ltr L T l) (T (l + 1) - T l).toNat 0 (31 * x + (T (l + 1) - T l)) → Wa q_X8_addTo 2 0 0 4 (zD (some (zJ R)) (wSh L T F lc cc sg mn)) 74 [(7, zI b7), (3, zJ y), (6, zI (T (l + 1) - T l)), (5, zI l), (0, zR 0)] [] (wSh L T F lc cc sg mn) 0 0 := by
      intro y b7 hy
      refine wa_iinc (pc' := 77) (ls' := [(5, _), (7, _), (3, _), (6, _), (0, _)]) dX8_addTo_74 rfl rfl (by decide) rfl ?_
      refine wa_goto (pc' := 15) dX8_addTo_77 (by decide) ?_
      refine wa_sub [0, 2, 4] rfl ?_
      exact ih (l + 1) y (by omega) (by omega) (by rw [hy]; exact hx)
    refine wa_iload (pc' := 17) dX8_addTo_15 rfl rfl ?_
    refine wa_aload_n (pc' := 18) dX8_addTo_17 rfl rfl rfl ?_
    refine wa_getfield (pc' := 21) (j := 2) zc_X8 lk_X8_19 dX8_addTo_18 rfl (by decide) rfl rfl ?_
    refine wa_icmp_ge (tgt := 80) (pc' := 24) dX8_addTo_21 (by decide) rfl (by omega) (by omega) (fun c21 => ?_) (fun c21 => ?_)
    · exact absurd c21 (by omega)
    · refine wa_aload_n (pc' := 25) dX8_addTo_24 rfl rfl rfl ?_
      refine wa_iload (pc' := 27) dX8_addTo_25 rfl rfl ?_
      refine wa_rV (pc' := 30) (k_X8_lengthOf _ _ _ _ _ _ _ _ (by omega)) ok_X8_lengthOf lm_X8_50 dX8_addTo_27 rfl [0, 1, 2, 3] rfl (by decide) rfl rfl rfl rfl rfl (by decide) (Nat.le_of_ble_eq_true rfl) rfl (by decide) (by decide) rfl ?_
      refine wa_istore (pc' := 32) (ls' := [(6, _), (5, _), (3, _), (0, _)]) dX8_addTo_30 rfl (by decide) rfl ?_
      refine wa_ldc2 (pc' := 35) (n := 31) dX8_addTo_32 rfl kl_X8_108 ?_
      refine wa_lload_n (pc' := 36) dX8_addTo_35 rfl rfl rfl ?_
      refine wa_lmul (pc' := 37) dX8_addTo_36 rfl ?_
      refine wa_iload (pc' := 39) dX8_addTo_37 rfl rfl ?_
      refine wa_i2l (pc' := 40) dX8_addTo_39 rfl (by omega) ?_
      refine wa_ladd (pc' := 41) dX8_addTo_40 rfl ?_
      refine wa_lstore_n (pc' := 42) (ls' := [(3, _), (6, _), (5, _), (0, _)]) dX8_addTo_41 rfl rfl (by decide) rfl ?_
      refine wa_iconst (pc' := 43) dX8_addTo_42 rfl ?_
      refine wa_istore (pc' := 45) (ls' := [(7, _), (3, _), (6, _), (5, _), (0, _)]) dX8_addTo_43 rfl (by decide) rfl ?_
      exact l_addTo1 L T F lc cc sg mn (31 * x + (T (l + 1) - T l)) R hT l ⟨h0, by omega, hlc⟩ (fun k => hL l k h0 (by omega)) hk _ 0 _ ⟨by omega, by omega⟩ (by omega) rfl

set_option maxRecDepth 10000 in
set_option maxHeartbeats 1000000 in
theorem k_X8_addTo (L T F : Int → Int) (lc cc sg mn : Int) (fp : Int) (hT : ∀ k : Int, 0 ≤ k → k ≤ 201 → 0 ≤ T k ∧ T k ≤ 200) (hlc : 1 ≤ lc ∧ lc ≤ 201) (hc : 0 ≤ cc ∧ cc ≤ 40) (hF : ∀ j : Int, 0 ≤ j → j < 200 → -1000 ≤ F j ∧ F j ≤ 1000) (hL : ∀ j : Int, 0 ≤ j → j < 200 → 0 ≤ L j ∧ L j < 65536) : zMet q_X8_addTo 2 0 0 [zR 0, zJ fp] (wSh L T F lc cc sg mn) (zD (some (zJ (fpC (fun i f => F (i * 5 + f)) cc.toNat 0 (fpB (fun l => T (l + 1) - T l) (ltr L T) lc.toNat 0 (31 * fp + lc))))) (wSh L T F lc cc sg mn)) := by
  refine z_introF (ls := [(0, _), (1, _)]) (by decide +kernel) rfl (fun _ _ => rfl) (fun _ _ => Nat.le_of_ble_eq_true rfl) ?_
  have hLt : ∀ l k : Int, 0 ≤ l → l < lc → 0 ≤ ltr L T l k + 1 ∧ ltr L T l k < 65536 := by
    intro l k h0 h1
    have t1 := hT l (by omega) (by omega)
    have t2 := hT (l + 1) (by omega) (by omega)
    unfold ltr
    split
    · have := hL (T l + k) (by omega) (by omega)
      omega
    · omega
  refine wa_ldc2 (pc' := 3) (n := 31) dX8_addTo_0 rfl kl_X8_108 ?_
  refine wa_lload_n (pc' := 4) dX8_addTo_3 rfl rfl rfl ?_
  refine wa_lmul (pc' := 5) dX8_addTo_4 rfl ?_
  refine wa_aload_n (pc' := 6) dX8_addTo_5 rfl rfl rfl ?_
  refine wa_getfield (pc' := 9) (j := 2) zc_X8 lk_X8_19 dX8_addTo_6 rfl (by decide) rfl rfl ?_
  refine wa_i2l (pc' := 10) dX8_addTo_9 rfl (by omega) ?_
  refine wa_ladd (pc' := 11) dX8_addTo_10 rfl ?_
  refine wa_lstore_n (pc' := 12) (ls' := [(3, _), (0, _), (1, _)]) dX8_addTo_11 rfl rfl (by decide) rfl ?_
  refine wa_iconst (pc' := 13) dX8_addTo_12 rfl ?_
  refine wa_istore (pc' := 15) (ls' := [(5, _), (3, _), (0, _), (1, _)]) dX8_addTo_13 rfl (by decide) rfl ?_
  refine wa_sub [0, 1, 2] rfl ?_
  refine l_addTo0 L T F lc cc sg mn (31 * fp + lc) _ hT hlc.2 hLt (fun x b5 hx => ?_) lc.toNat 0 _ (by omega) (by omega) rfl
  subst hx
  refine wa_iconst (pc' := 81) dX8_addTo_80 rfl ?_
  refine wa_istore (pc' := 83) (ls' := [(5, _), (3, _), (0, _)]) dX8_addTo_81 rfl (by decide) rfl ?_
  exact l_addTo2 L T F lc cc sg mn 0 _ hc hF cc.toNat 0 _ 0 (by omega) (by omega) rfl

