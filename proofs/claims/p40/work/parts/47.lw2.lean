/-! calls inside a try -/
theorem lc_eIA : Cond.classLink RL 76 eIA ∈ lw_tbl := List.mem_of_getElem? (i := 627) (by decide +kernel)
theorem la_eIA : Cond.castable eIA eIA ∈ lw_tbl := List.mem_of_getElem? (i := 638) (by decide +kernel)
theorem lc_eIS : Cond.classLink RL 71 eIS ∈ lw_tbl := List.mem_of_getElem? (i := 544) (by decide +kernel)
theorem la_eIS : Cond.castable eIS eIS ∈ lw_tbl := List.mem_of_getElem? (i := 555) (by decide +kernel)
theorem lc_eIO : Cond.classLink RL 66 eIO ∈ lw_tbl := List.mem_of_getElem? (i := 678) (by decide +kernel)
theorem la_eIO : Cond.castable eIO eIO ∈ lw_tbl := List.mem_of_getElem? (i := 689) (by decide +kernel)
set_option maxRecDepth 10000 in
set_option maxHeartbeats 2000000 in
theorem k_L_told_x (t nm : zRw) (s D : zSh) (H : Nat → zSh) (ol ct : Int) (k : zKd) (y : zLy) (si fl wi : Int) (h : okC (t, nm, s, D, H, ol, ct, k, y, si, fl, wi)) (i : Int) (hi : zin i) {c1 : zCS} (hr : cs_rootOf i (t, nm, s, D, H, ol, ct, k, y, si, fl, wi) = (.inr eIO, c1)) : zMet q_L_told 9 1 6 [zR 0, zI i] (wCS (t, nm, s, D, H, ol, ct, k, y, si, fl, wi)) (zLP fun v c => v = zI (-99) ∧ c = c1) := by
  refine z_introH (ls := [(0, _), (1, _)]) (by decide +kernel) rfl (fun _ _ => rfl) (fun _ _ => Nat.le_of_ble_eq_true rfl) ?_
  refine wa_aload_n (pc' := 1) dL_told_0 rfl rfl rfl ?_
  refine wa_iload_n (pc' := 2) dL_told_1 rfl rfl rfl ?_
  refine wy_hx (c0 := (t, nm, s, D, H, ol, ct, k, y, si, fl, wi)) (c1 := c1) (i := 2) (pch := 7) (qi := 2) ⟨0, 5, 6, 66⟩ (k_X9_rootOf t nm s D H ol ct k y si fl wi h i hi) hr ok_X9_rootOf lm_L_63 dL_told_2 rfl rfl rfl rfl (Nat.le_of_ble_eq_true rfl) (Nat.le_of_ble_eq_true rfl) (by omega) (by omega) ⟨[], [], rfl, (fun z hz => nomatch hz), ⟨rfl, by decide⟩, ⟨lc_eIO, la_eIO⟩⟩ rfl (by decide) dL_told_6 rfl rfl ?_
  refine wa_bipush (pc' := 9) dL_told_7 rfl rfl ?_
  exact wa_iret dL_told_9 rfl (by omega) (by omega) (zLP_i ⟨rfl, rfl⟩ rfl)

set_option maxRecDepth 10000 in
set_option maxHeartbeats 2000000 in
theorem k_L_told_v (t nm : zRw) (s D : zSh) (H : Nat → zSh) (ol ct : Int) (k : zKd) (y : zLy) (si fl wi : Int) (h : okC (t, nm, s, D, H, ol, ct, k, y, si, fl, wi)) (i : Int) (hi : zin i) {c1 : zCS} {a9 : Int} (hr : cs_rootOf i (t, nm, s, D, H, ol, ct, k, y, si, fl, wi) = (.inl (some (zI a9)), c1)) : zMet q_L_told 9 1 6 [zR 0, zI i] (wCS (t, nm, s, D, H, ol, ct, k, y, si, fl, wi)) (zLP fun v c => v = zI a9 ∧ c = c1) := by
  refine z_introH (ls := [(0, _), (1, _)]) (by decide +kernel) rfl (fun _ _ => rfl) (fun _ _ => Nat.le_of_ble_eq_true rfl) ?_
  refine wa_aload_n (pc' := 1) dL_told_0 rfl rfl rfl ?_
  refine wa_iload_n (pc' := 2) dL_told_1 rfl rfl rfl ?_
  refine wy_hv (pc' := 5) (c0 := (t, nm, s, D, H, ol, ct, k, y, si, fl, wi)) (c1 := c1) (k_X9_rootOf t nm s D H ol ct k y si fl wi h i hi) hr rfl ok_X9_rootOf lm_L_63 dL_told_2 rfl rfl rfl rfl rfl (Nat.le_of_ble_eq_true rfl) (Nat.le_of_ble_eq_true rfl) (by omega) (by omega) ?_
  refine wa_iret dL_told_5 rfl (by omega) (by omega) ?_
  exact zLP_i ⟨rfl, rfl⟩ rfl

set_option maxRecDepth 10000 in
set_option maxHeartbeats 2000000 in
theorem k_L_added_x (t nm : zRw) (s D : zSh) (H : Nat → zSh) (ol ct : Int) (k : zKd) (y : zLy) (si fl wi : Int) (h : okC (t, nm, s, D, H, ol, ct, k, y, si, fl, wi)) (l : Int) (hl : zin l) (c : Int) (hc : zin c) {c1 : zCS} (hr : cs_addChord l c (t, nm, s, D, H, ol, ct, k, y, si, fl, wi) = (.inr eIO, c1)) : zMet q_L_added 9 3 18 [zR 0, zI l, zI c] (wCS (t, nm, s, D, H, ol, ct, k, y, si, fl, wi)) (zLP fun v c => v = zI (-999) ∧ c = c1) := by
  refine z_introH (ls := [(0, _), (1, _), (2, _)]) (by decide +kernel) rfl (fun _ _ => rfl) (fun _ _ => Nat.le_of_ble_eq_true rfl) ?_
  refine wa_aload_n (pc' := 1) dL_added_0 rfl rfl rfl ?_
  refine wa_iload_n (pc' := 2) dL_added_1 rfl rfl rfl ?_
  refine wa_iload_n (pc' := 3) dL_added_2 rfl rfl rfl ?_
  refine wy_hx (c0 := (t, nm, s, D, H, ol, ct, k, y, si, fl, wi)) (c1 := c1) (i := 3) (pch := 8) (qi := 3) ⟨0, 6, 7, 66⟩ (k_X9_addChord t nm s D H ol ct k y si fl wi h l hl c hc) hr ok_X9_addChord lm_L_68 dL_added_3 rfl rfl rfl rfl (Nat.le_of_ble_eq_true rfl) (Nat.le_of_ble_eq_true rfl) (by omega) (by omega) ⟨[], [⟨0, 6, 12, 71⟩], rfl, (fun z hz => nomatch hz), ⟨rfl, by decide⟩, ⟨lc_eIO, la_eIO⟩⟩ rfl (by decide) dL_added_7 rfl rfl ?_
  refine wa_sipush (pc' := 11) dL_added_8 rfl rfl ?_
  exact wa_iret dL_added_11 rfl (by omega) (by omega) (zLP_i ⟨rfl, rfl⟩ rfl)

set_option maxRecDepth 10000 in
set_option maxHeartbeats 2000000 in
theorem k_L_added_v (t nm : zRw) (s D : zSh) (H : Nat → zSh) (ol ct : Int) (k : zKd) (y : zLy) (si fl wi : Int) (h : okC (t, nm, s, D, H, ol, ct, k, y, si, fl, wi)) (l : Int) (hl : zin l) (c : Int) (hc : zin c) {c1 : zCS} {a9 : Int} (hr : cs_addChord l c (t, nm, s, D, H, ol, ct, k, y, si, fl, wi) = (.inl (some (zI a9)), c1)) : zMet q_L_added 9 3 18 [zR 0, zI l, zI c] (wCS (t, nm, s, D, H, ol, ct, k, y, si, fl, wi)) (zLP fun v c => v = zI a9 ∧ c = c1) := by
  refine z_introH (ls := [(0, _), (1, _), (2, _)]) (by decide +kernel) rfl (fun _ _ => rfl) (fun _ _ => Nat.le_of_ble_eq_true rfl) ?_
  refine wa_aload_n (pc' := 1) dL_added_0 rfl rfl rfl ?_
  refine wa_iload_n (pc' := 2) dL_added_1 rfl rfl rfl ?_
  refine wa_iload_n (pc' := 3) dL_added_2 rfl rfl rfl ?_
  refine wy_hv (pc' := 6) (c0 := (t, nm, s, D, H, ol, ct, k, y, si, fl, wi)) (c1 := c1) (k_X9_addChord t nm s D H ol ct k y si fl wi h l hl c hc) hr rfl ok_X9_addChord lm_L_68 dL_added_3 rfl rfl rfl rfl rfl (Nat.le_of_ble_eq_true rfl) (Nat.le_of_ble_eq_true rfl) (by omega) (by omega) ?_
  refine wa_iret dL_added_6 rfl (by omega) (by omega) ?_
  exact zLP_i ⟨rfl, rfl⟩ rfl

set_option maxRecDepth 10000 in
set_option maxHeartbeats 2000000 in
theorem k_L_transposed_x (t nm : zRw) (s D : zSh) (H : Nat → zSh) (ol ct : Int) (k : zKd) (y : zLy) (si fl wi : Int) (h : okC (t, nm, s, D, H, ol, ct, k, y, si, fl, wi)) (se : Int) (hse : zin se) {c1 : zCS} (hr : cs_transpose se (t, nm, s, D, H, ol, ct, k, y, si, fl, wi) = (.inr eIA, c1)) : zMet q_L_transposed 8 1 6 [zR 0, zI se] (wCS (t, nm, s, D, H, ol, ct, k, y, si, fl, wi)) (zLP fun v c => v = zI (-99) ∧ c = c1) := by
  refine z_introH (ls := [(0, _), (1, _)]) (by decide +kernel) rfl (fun _ _ => rfl) (fun _ _ => Nat.le_of_ble_eq_true rfl) ?_
  refine wa_aload_n (pc' := 1) dL_transposed_0 rfl rfl rfl ?_
  refine wa_iload_n (pc' := 2) dL_transposed_1 rfl rfl rfl ?_
  refine wy_hx (c0 := (t, nm, s, D, H, ol, ct, k, y, si, fl, wi)) (c1 := c1) (i := 2) (pch := 7) (qi := 2) ⟨0, 5, 6, 76⟩ (k_X9_transpose t nm s D H ol ct k y si fl wi h se hse) hr ok_X9_transpose lm_L_73 dL_transposed_2 rfl rfl rfl rfl (Nat.le_of_ble_eq_true rfl) (Nat.le_of_ble_eq_true rfl) (by omega) (by omega) ⟨[], [], rfl, (fun z hz => nomatch hz), ⟨rfl, by decide⟩, ⟨lc_eIA, la_eIA⟩⟩ rfl (by decide) dL_transposed_6 rfl rfl ?_
  refine wa_bipush (pc' := 9) dL_transposed_7 rfl rfl ?_
  exact wa_iret dL_transposed_9 rfl (by omega) (by omega) (zLP_i ⟨rfl, rfl⟩ rfl)

set_option maxRecDepth 10000 in
set_option maxHeartbeats 2000000 in
theorem k_L_transposed_v (t nm : zRw) (s D : zSh) (H : Nat → zSh) (ol ct : Int) (k : zKd) (y : zLy) (si fl wi : Int) (h : okC (t, nm, s, D, H, ol, ct, k, y, si, fl, wi)) (se : Int) (hse : zin se) {c1 : zCS} {a9 : Int} (hr : cs_transpose se (t, nm, s, D, H, ol, ct, k, y, si, fl, wi) = (.inl (some (zI a9)), c1)) : zMet q_L_transposed 8 1 6 [zR 0, zI se] (wCS (t, nm, s, D, H, ol, ct, k, y, si, fl, wi)) (zLP fun v c => v = zI a9 ∧ c = c1) := by
  refine z_introH (ls := [(0, _), (1, _)]) (by decide +kernel) rfl (fun _ _ => rfl) (fun _ _ => Nat.le_of_ble_eq_true rfl) ?_
  refine wa_aload_n (pc' := 1) dL_transposed_0 rfl rfl rfl ?_
  refine wa_iload_n (pc' := 2) dL_transposed_1 rfl rfl rfl ?_
  refine wy_hv (pc' := 5) (c0 := (t, nm, s, D, H, ol, ct, k, y, si, fl, wi)) (c1 := c1) (k_X9_transpose t nm s D H ol ct k y si fl wi h se hse) hr rfl ok_X9_transpose lm_L_73 dL_transposed_2 rfl rfl rfl rfl rfl (Nat.le_of_ble_eq_true rfl) (Nat.le_of_ble_eq_true rfl) (by omega) (by omega) ?_
  refine wa_iret dL_transposed_5 rfl (by omega) (by omega) ?_
  exact zLP_i ⟨rfl, rfl⟩ rfl

set_option maxRecDepth 10000 in
set_option maxHeartbeats 2000000 in
theorem k_L_undone_x (t nm : zRw) (s D : zSh) (H : Nat → zSh) (ol ct : Int) (k : zKd) (y : zLy) (si fl wi : Int) (h : okC (t, nm, s, D, H, ol, ct, k, y, si, fl, wi))  {c1 : zCS} (hr : cs_undo (t, nm, s, D, H, ol, ct, k, y, si, fl, wi) = (.inr eIS, c1)) : zMet q_L_undone 8 1 6 [zR 0] (wCS (t, nm, s, D, H, ol, ct, k, y, si, fl, wi)) (zLP fun v c => v = zI (-1) ∧ c = c1) := by
  refine z_introH (ls := [(0, _)]) (by decide +kernel) rfl (fun _ _ => rfl) (fun _ _ => Nat.le_of_ble_eq_true rfl) ?_
  refine wa_aload_n (pc' := 1) dL_undone_0 rfl rfl rfl ?_
  refine wy_hx (c0 := (t, nm, s, D, H, ol, ct, k, y, si, fl, wi)) (c1 := c1) (i := 1) (pch := 6) (qi := 1) ⟨0, 4, 5, 71⟩ (k_X9_undo t nm s D H ol ct k y si fl wi h) hr ok_X9_undo lm_L_78 dL_undone_1 rfl rfl rfl rfl (Nat.le_of_ble_eq_true rfl) (Nat.le_of_ble_eq_true rfl) (by omega) (by omega) ⟨[], [], rfl, (fun z hz => nomatch hz), ⟨rfl, by decide⟩, ⟨lc_eIS, la_eIS⟩⟩ rfl (by decide) dL_undone_5 rfl rfl ?_
  refine wa_iconst (pc' := 7) dL_undone_6 rfl ?_
  exact wa_iret dL_undone_7 rfl (by omega) (by omega) (zLP_i ⟨rfl, rfl⟩ rfl)

set_option maxRecDepth 10000 in
set_option maxHeartbeats 2000000 in
theorem k_L_undone_v (t nm : zRw) (s D : zSh) (H : Nat → zSh) (ol ct : Int) (k : zKd) (y : zLy) (si fl wi : Int) (h : okC (t, nm, s, D, H, ol, ct, k, y, si, fl, wi))  {c1 : zCS} {a9 : Int} (hr : cs_undo (t, nm, s, D, H, ol, ct, k, y, si, fl, wi) = (.inl (some (zI a9)), c1)) : zMet q_L_undone 8 1 6 [zR 0] (wCS (t, nm, s, D, H, ol, ct, k, y, si, fl, wi)) (zLP fun v c => v = zI a9 ∧ c = c1) := by
  refine z_introH (ls := [(0, _)]) (by decide +kernel) rfl (fun _ _ => rfl) (fun _ _ => Nat.le_of_ble_eq_true rfl) ?_
  refine wa_aload_n (pc' := 1) dL_undone_0 rfl rfl rfl ?_
  refine wy_hv (pc' := 4) (c0 := (t, nm, s, D, H, ol, ct, k, y, si, fl, wi)) (c1 := c1) (k_X9_undo t nm s D H ol ct k y si fl wi h) hr rfl ok_X9_undo lm_L_78 dL_undone_1 rfl rfl rfl rfl rfl (Nat.le_of_ble_eq_true rfl) (Nat.le_of_ble_eq_true rfl) (by omega) (by omega) ?_
  refine wa_iret dL_undone_4 rfl (by omega) (by omega) ?_
  exact zLP_i ⟨rfl, rfl⟩ rfl

set_option maxRecDepth 10000 in
set_option maxHeartbeats 2000000 in
theorem k_L_key_x (t nm : zRw) (s D : zSh) (H : Nat → zSh) (ol ct : Int) (k : zKd) (y : zLy) (si fl wi : Int) (h : okC (t, nm, s, D, H, ol, ct, k, y, si, fl, wi)) (p : Int) (hp : zin p) (b : Int) (hb : b = 0 ∨ b = 1) {c1 : zCS} (hr : cs_setKey p b (t, nm, s, D, H, ol, ct, k, y, si, fl, wi) = (.inr eIA, c1)) : zMet q_L_key 9 1 6 [zR 0, zI p, zI b] (wCS (t, nm, s, D, H, ol, ct, k, y, si, fl, wi)) (zLP fun v c => v = zI (-99) ∧ c = c1) := by
  refine z_introH (ls := [(0, _), (1, _), (2, _)]) (by decide +kernel) rfl (fun _ _ => rfl) (fun _ _ => Nat.le_of_ble_eq_true rfl) ?_
  refine wa_aload_n (pc' := 1) dL_key_0 rfl rfl rfl ?_
  refine wa_iload_n (pc' := 2) dL_key_1 rfl rfl rfl ?_
  refine wa_iload_n (pc' := 3) dL_key_2 rfl rfl rfl ?_
  refine wy_hx (c0 := (t, nm, s, D, H, ol, ct, k, y, si, fl, wi)) (c1 := c1) (i := 3) (pch := 8) (qi := 3) ⟨0, 6, 7, 76⟩ (k_X9_setKey t nm s D H ol ct k y si fl wi h p hp b hb) hr ok_X9_setKey lm_L_82 dL_key_3 rfl rfl rfl rfl (Nat.le_of_ble_eq_true rfl) (Nat.le_of_ble_eq_true rfl) (by omega) (by omega) ⟨[], [], rfl, (fun z hz => nomatch hz), ⟨rfl, by decide⟩, ⟨lc_eIA, la_eIA⟩⟩ rfl (by decide) dL_key_7 rfl rfl ?_
  refine wa_bipush (pc' := 10) dL_key_8 rfl rfl ?_
  exact wa_iret dL_key_10 rfl (by omega) (by omega) (zLP_i ⟨rfl, rfl⟩ rfl)

set_option maxRecDepth 10000 in
set_option maxHeartbeats 2000000 in
theorem k_L_key_v (t nm : zRw) (s D : zSh) (H : Nat → zSh) (ol ct : Int) (k : zKd) (y : zLy) (si fl wi : Int) (h : okC (t, nm, s, D, H, ol, ct, k, y, si, fl, wi)) (p : Int) (hp : zin p) (b : Int) (hb : b = 0 ∨ b = 1) {c1 : zCS} {a9 : Int} (hr : cs_setKey p b (t, nm, s, D, H, ol, ct, k, y, si, fl, wi) = (.inl (some (zI a9)), c1)) : zMet q_L_key 9 1 6 [zR 0, zI p, zI b] (wCS (t, nm, s, D, H, ol, ct, k, y, si, fl, wi)) (zLP fun v c => v = zI a9 ∧ c = c1) := by
  refine z_introH (ls := [(0, _), (1, _), (2, _)]) (by decide +kernel) rfl (fun _ _ => rfl) (fun _ _ => Nat.le_of_ble_eq_true rfl) ?_
  refine wa_aload_n (pc' := 1) dL_key_0 rfl rfl rfl ?_
  refine wa_iload_n (pc' := 2) dL_key_1 rfl rfl rfl ?_
  refine wa_iload_n (pc' := 3) dL_key_2 rfl rfl rfl ?_
  refine wy_hv (pc' := 6) (c0 := (t, nm, s, D, H, ol, ct, k, y, si, fl, wi)) (c1 := c1) (k_X9_setKey t nm s D H ol ct k y si fl wi h p hp b hb) hr rfl ok_X9_setKey lm_L_82 dL_key_3 rfl rfl rfl rfl rfl (Nat.le_of_ble_eq_true rfl) (Nat.le_of_ble_eq_true rfl) (by omega) (by omega) ?_
  refine wa_iret dL_key_6 rfl (by omega) (by omega) ?_
  exact zLP_i ⟨rfl, rfl⟩ rfl

/-! calls that throw -/
theorem e_rootOfx {t nm : zRw} {s D : zSh} {H : Nat → zSh} {ol ct : Int} {k : zKd} {y : zLy} {si fl wi : Int} {i : Int} (hx : ¬ (0 ≤ i ∧ i < s.2.2.2.2.1)) : cs_rootOf i (t, nm, s, D, H, ol, ct, k, y, si, fl, wi) = (.inr eIO, (t, nm, s, D, H, ol, ct, k, y, si, fl, wi)) := if_pos hx
theorem e_addx1 {t nm : zRw} {s D : zSh} {H : Nat → zSh} {ol ct : Int} {k : zKd} {y : zLy} {si fl wi : Int} {l c : Int} (hx : ¬ (0 ≤ l ∧ l < s.2.2.2.1)) : cs_addChord l c (t, nm, s, D, H, ol, ct, k, y, si, fl, wi) = (.inr eIO, (t, nm, s, D, H, ol, ct, k, y, si, fl, wi)) := if_pos hx
theorem e_addx2 {t nm : zRw} {s D : zSh} {H : Nat → zSh} {ol ct : Int} {k : zKd} {y : zLy} {si fl wi : Int} {l c : Int} (hl : 0 ≤ l ∧ l < s.2.2.2.1) (hx : c < 0 ∨ s.2.1 (l + 1) - s.2.1 l < c) : cs_addChord l c (t, nm, s, D, H, ol, ct, k, y, si, fl, wi) = (.inr eIO, (t, nm, s, D, H, ol, ct, k, y, si, fl, wi)) := (if_neg (not_not_intro hl)).trans (if_pos hx)
theorem e_transx {t nm : zRw} {s D : zSh} {H : Nat → zSh} {ol ct : Int} {k : zKd} {y : zLy} {si fl wi : Int} {se : Int} (hx : se < -11 ∨ 11 < se) : cs_transpose se (t, nm, s, D, H, ol, ct, k, y, si, fl, wi) = (.inr eIA, (t, nm, s, D, H, ol, ct, k, y, si, fl, wi)) := if_pos hx
theorem e_setKeyx {t nm : zRw} {s D : zSh} {H : Nat → zSh} {ol ct : Int} {k : zKd} {y : zLy} {si fl wi : Int} {p b : Int} (hx : ¬ (-6 ≤ p - 3 * b ∧ p - 3 * b ≤ 6)) : cs_setKey p b (t, nm, s, D, H, ol, ct, k, y, si, fl, wi) = (.inr eIA, (t, nm, s, D, H, ol, ct, k, y, si, fl, wi)) := if_pos hx
theorem e_undox {t nm : zRw} {s D : zSh} {H : Nat → zSh} {ol ct : Int} {k : zKd} {y : zLy} {si fl wi : Int} (hx : ct = 0) : cs_undo (t, nm, s, D, H, ol, ct, k, y, si, fl, wi) = (.inr eIS, (t, nm, s, D, H, ol, ct, k, y, si, fl, wi)) := if_pos hx
theorem e_lyrics {t nm : zRw} {s D : zSh} {H : Nat → zSh} {ol ct : Int} {k : zKd} {y : zLy} {si fl wi : Int} {l : Int} (hl : 0 ≤ l ∧ l < s.2.2.2.1) : cs_lyrics l (t, nm, s, D, H, ol, ct, k, y, si, fl, wi) = (.inl (some (zI (s.2.1 (l + 1) - s.2.1 l))), (t, nm, s, D, H, ol, ct, k, y, si, fl, wi)) := if_neg (not_not_intro hl)
/-! calls that throw change nothing -/
set_option maxRecDepth 10000 in
set_option maxHeartbeats 2000000 in
theorem k_L_fails (t nm : zRw) (s D : zSh) (H : Nat → zSh) (ol ct : Int) (k : zKd) (y : zLy) (si fl wi : Int) (h : okC (t, nm, s, D, H, ol, ct, k, y, si, fl, wi)) : zMet q_L_fails 11 20 120 [zR 0] (wCS (t, nm, s, D, H, ol, ct, k, y, si, fl, wi)) (zLP fun v c => v = zI 1 ∧ c = (t, nm, s, D, H, ol, ct, k, y, si, fl, wi)) := by
  refine z_introF (ls := [(0, _)]) (by decide +kernel) rfl (fun _ _ => rfl) (fun _ _ => Nat.le_of_ble_eq_true rfl) ?_
  obtain ⟨hT9, hnm, hs9, hD9, hH9, hol, hct, hk9, hq9, hsi, hfl, hwi⟩ := id h
  obtain ⟨z1, z2, zT1, z4, zF1, zL1⟩ := id hs9.1
  have t0 := zT1 0 (by omega) (by omega)
  have t1 := zT1 (0 + 1) (by omega) (by omega)
  refine wa_aload_n (pc' := 1) dL_fails_0 rfl rfl rfl ?_
  refine wy_x (pc' := 4) (c0 := (t, nm, s, D, H, ol, ct, k, y, si, fl, wi)) (c1 := (t, nm, s, D, H, ol, ct, k, y, si, fl, wi)) (k_X9_fingerprint t nm s D H ol ct k y si fl wi h) (rfl) rfl ok_X9_fingerprint lm_L_86 dL_fails_1 rfl rfl rfl rfl rfl (Nat.le_of_ble_eq_true rfl) (Nat.le_of_ble_eq_true rfl) rfl (by omega) (by omega) ?_
  refine wa_lstore_n (pc' := 5) (ls' := [(1, _), (0, _)]) dL_fails_4 rfl rfl (by decide) rfl ?_
  refine wa_aload_n (pc' := 6) dL_fails_5 rfl rfl rfl ?_
  refine wy_x (pc' := 9) (c0 := (t, nm, s, D, H, ol, ct, k, y, si, fl, wi)) (c1 := (t, nm, s, D, H, ol, ct, k, y, si, fl, wi)) (k_X9_chords t nm s D H ol ct k y si fl wi h) (rfl) rfl ok_X9_chords lm_L_90 dL_fails_6 rfl rfl rfl rfl rfl (Nat.le_of_ble_eq_true rfl) (Nat.le_of_ble_eq_true rfl) rfl (by omega) (by omega) ?_
  refine wa_istore_n (pc' := 10) (ls' := [(3, _), (1, _), (0, _)]) dL_fails_9 rfl rfl (by decide) rfl ?_
  refine wa_aload_n (pc' := 11) dL_fails_10 rfl rfl rfl ?_
  refine wa_iload_n (pc' := 12) dL_fails_11 rfl rfl rfl ?_
  refine wy_h (pc' := 15) (c0 := (t, nm, s, D, H, ol, ct, k, y, si, fl, wi)) (k_L_told_x t nm s D H ol ct k y si fl wi h s.2.2.2.2.1 ⟨by omega, by omega⟩ (e_rootOfx (by omega))) (fun v9 c9 h9 => by rw [h9.1]; rfl) ok_L_told rfl lm_L_93 dL_fails_12 rfl rfl rfl (Nat.le_of_ble_eq_true rfl) (Nat.le_of_ble_eq_true rfl) (by omega) (by omega) (fun v9 c9 h9 => ?_)
  obtain ⟨rfl, rfl⟩ := h9
  refine wa_bipush (pc' := 17) dL_fails_15 rfl rfl ?_
  refine wa_icmp_ne (tgt := 89) (pc' := 20) dL_fails_17 (by decide) rfl (by omega) (by omega) (fun c17 => ?_) (fun c17 => ?_)
  · exact absurd c17 (by omega)
  · refine wa_aload_n (pc' := 21) dL_fails_20 rfl rfl rfl ?_
    refine wa_iconst (pc' := 22) dL_fails_21 rfl ?_
    refine wy_h (pc' := 25) (c0 := (t, nm, s, D, H, ol, ct, k, y, si, fl, wi)) (k_L_told_x t nm s D H ol ct k y si fl wi h (-1) ⟨by omega, by omega⟩ (e_rootOfx (by omega))) (fun v9 c9 h9 => by rw [h9.1]; rfl) ok_L_told rfl lm_L_93 dL_fails_22 rfl rfl rfl (Nat.le_of_ble_eq_true rfl) (Nat.le_of_ble_eq_true rfl) (by omega) (by omega) (fun v9 c9 h9 => ?_)
    obtain ⟨rfl, rfl⟩ := h9
    refine wa_bipush (pc' := 27) dL_fails_25 rfl rfl ?_
    refine wa_icmp_ne (tgt := 89) (pc' := 30) dL_fails_27 (by decide) rfl (by omega) (by omega) (fun c27 => ?_) (fun c27 => ?_)
    · exact absurd c27 (by omega)
    · refine wa_aload_n (pc' := 31) dL_fails_30 rfl rfl rfl ?_
      refine wa_aload_n (pc' := 32) dL_fails_31 rfl rfl rfl ?_
      refine wy_x (pc' := 35) (c0 := (t, nm, s, D, H, ol, ct, k, y, si, fl, wi)) (c1 := (t, nm, s, D, H, ol, ct, k, y, si, fl, wi)) (k_X9_lines t nm s D H ol ct k y si fl wi h) (rfl) rfl ok_X9_lines lm_L_96 dL_fails_32 rfl rfl rfl rfl rfl (Nat.le_of_ble_eq_true rfl) (Nat.le_of_ble_eq_true rfl) rfl (by omega) (by omega) ?_
      refine wa_iconst (pc' := 36) dL_fails_35 rfl ?_
      refine wy_h (pc' := 39) (c0 := (t, nm, s, D, H, ol, ct, k, y, si, fl, wi)) (k_L_added_x t nm s D H ol ct k y si fl wi h s.2.2.2.1 ⟨by omega, by omega⟩ 0 ⟨by omega, by omega⟩ (e_addx1 (by omega))) (fun v9 c9 h9 => by rw [h9.1]; rfl) ok_L_added rfl lm_L_99 dL_fails_36 rfl rfl rfl (Nat.le_of_ble_eq_true rfl) (Nat.le_of_ble_eq_true rfl) (by omega) (by omega) (fun v9 c9 h9 => ?_)
      obtain ⟨rfl, rfl⟩ := h9
      refine wa_sipush (pc' := 42) dL_fails_39 rfl rfl ?_
      refine wa_icmp_ne (tgt := 89) (pc' := 45) dL_fails_42 (by decide) rfl (by omega) (by omega) (fun c42 => ?_) (fun c42 => ?_)
      · exact absurd c42 (by omega)
      · refine wa_aload_n (pc' := 46) dL_fails_45 rfl rfl rfl ?_
        refine wa_iconst (pc' := 47) dL_fails_46 rfl ?_
        refine wa_aload_n (pc' := 48) dL_fails_47 rfl rfl rfl ?_
        refine wa_iconst (pc' := 49) dL_fails_48 rfl ?_
        refine wy_x (pc' := 52) (c0 := (t, nm, s, D, H, ol, ct, k, y, si, fl, wi)) (c1 := (t, nm, s, D, H, ol, ct, k, y, si, fl, wi)) (k_X9_lyrics t nm s D H ol ct k y si fl wi h 0 ⟨by omega, by omega⟩) (e_lyrics (by omega)) rfl ok_X9_lyrics lm_L_103 dL_fails_49 rfl rfl rfl rfl rfl (Nat.le_of_ble_eq_true rfl) (Nat.le_of_ble_eq_true rfl) rfl (by omega) (by omega) ?_
        refine wa_iconst (pc' := 53) dL_fails_52 rfl ?_
        refine wa_iadd (pc' := 54) dL_fails_53 rfl ?_
        refine wy_h (pc' := 57) (c0 := (t, nm, s, D, H, ol, ct, k, y, si, fl, wi)) (k_L_added_x t nm s D H ol ct k y si fl wi h 0 ⟨by omega, by omega⟩ (s.2.1 (0 + 1) - s.2.1 0 + 1) ⟨by omega, by omega⟩ (e_addx2 (by omega) (by omega))) (fun v9 c9 h9 => by rw [h9.1]; rfl) ok_L_added rfl lm_L_99 dL_fails_54 rfl rfl rfl (Nat.le_of_ble_eq_true rfl) (Nat.le_of_ble_eq_true rfl) (by omega) (by omega) (fun v9 c9 h9 => ?_)
        obtain ⟨rfl, rfl⟩ := h9
        refine wa_sipush (pc' := 60) dL_fails_57 rfl rfl ?_
        refine wa_icmp_ne (tgt := 89) (pc' := 63) dL_fails_60 (by decide) rfl (by omega) (by omega) (fun c60 => ?_) (fun c60 => ?_)
        · exact absurd c60 (by omega)
        · refine wa_aload_n (pc' := 64) dL_fails_63 rfl rfl rfl ?_
          refine wa_bipush (pc' := 66) dL_fails_64 rfl rfl ?_
          refine wy_h (pc' := 69) (c0 := (t, nm, s, D, H, ol, ct, k, y, si, fl, wi)) (k_L_transposed_x t nm s D H ol ct k y si fl wi h 12 ⟨by omega, by omega⟩ (e_transx (by omega))) (fun v9 c9 h9 => by rw [h9.1]; rfl) ok_L_transposed rfl lm_L_106 dL_fails_66 rfl rfl rfl (Nat.le_of_ble_eq_true rfl) (Nat.le_of_ble_eq_true rfl) (by omega) (by omega) (fun v9 c9 h9 => ?_)
          obtain ⟨rfl, rfl⟩ := h9
          refine wa_bipush (pc' := 71) dL_fails_69 rfl rfl ?_
          refine wa_icmp_ne (tgt := 89) (pc' := 74) dL_fails_71 (by decide) rfl (by omega) (by omega) (fun c71 => ?_) (fun c71 => ?_)
          · exact absurd c71 (by omega)
          · refine wa_aload_n (pc' := 75) dL_fails_74 rfl rfl rfl ?_
            refine wa_bipush (pc' := 77) dL_fails_75 rfl rfl ?_
            refine wy_h (pc' := 80) (c0 := (t, nm, s, D, H, ol, ct, k, y, si, fl, wi)) (k_L_transposed_x t nm s D H ol ct k y si fl wi h (-12) ⟨by omega, by omega⟩ (e_transx (by omega))) (fun v9 c9 h9 => by rw [h9.1]; rfl) ok_L_transposed rfl lm_L_106 dL_fails_77 rfl rfl rfl (Nat.le_of_ble_eq_true rfl) (Nat.le_of_ble_eq_true rfl) (by omega) (by omega) (fun v9 c9 h9 => ?_)
            obtain ⟨rfl, rfl⟩ := h9
            refine wa_bipush (pc' := 82) dL_fails_80 rfl rfl ?_
            refine wa_icmp_ne (tgt := 89) (pc' := 85) dL_fails_82 (by decide) rfl (by omega) (by omega) (fun c82 => ?_) (fun c82 => ?_)
            · exact absurd c82 (by omega)
            · refine wa_iconst (pc' := 86) dL_fails_85 rfl ?_
              refine wa_goto (pc' := 90) dL_fails_86 (by decide) ?_
              refine wa_istore (pc' := 92) (ls' := [(4, _), (3, _), (1, _), (0, _)]) dL_fails_90 rfl (by decide) rfl ?_
              refine wa_iload (pc' := 94) dL_fails_92 rfl rfl ?_
              refine wa_if_eq (tgt := 149) (pc' := 97) dL_fails_94 (by decide) rfl (by omega) (fun c94 => ?_) (fun c94 => ?_)
              · exact absurd c94 (by omega)
              · refine wa_aload_n (pc' := 98) dL_fails_97 rfl rfl rfl ?_
                refine wa_bipush (pc' := 100) dL_fails_98 rfl rfl ?_
                refine wa_iconst (pc' := 101) dL_fails_100 rfl ?_
                refine wy_h (pc' := 104) (c0 := (t, nm, s, D, H, ol, ct, k, y, si, fl, wi)) (k_L_key_x t nm s D H ol ct k y si fl wi h 7 ⟨by omega, by omega⟩ 0 (Or.inl rfl) (e_setKeyx (by omega))) (fun v9 c9 h9 => by rw [h9.1]; rfl) ok_L_key rfl lm_L_109 dL_fails_101 rfl rfl rfl (Nat.le_of_ble_eq_true rfl) (Nat.le_of_ble_eq_true rfl) (by omega) (by omega) (fun v9 c9 h9 => ?_)
                obtain ⟨rfl, rfl⟩ := h9
                refine wa_bipush (pc' := 106) dL_fails_104 rfl rfl ?_
                refine wa_icmp_ne (tgt := 149) (pc' := 109) dL_fails_106 (by decide) rfl (by omega) (by omega) (fun c106 => ?_) (fun c106 => ?_)
                · exact absurd c106 (by omega)
                · refine wa_aload_n (pc' := 110) dL_fails_109 rfl rfl rfl ?_
                  refine wa_bipush (pc' := 112) dL_fails_110 rfl rfl ?_
                  refine wa_iconst (pc' := 113) dL_fails_112 rfl ?_
                  refine wy_h (pc' := 116) (c0 := (t, nm, s, D, H, ol, ct, k, y, si, fl, wi)) (k_L_key_x t nm s D H ol ct k y si fl wi h (-7) ⟨by omega, by omega⟩ 0 (Or.inl rfl) (e_setKeyx (by omega))) (fun v9 c9 h9 => by rw [h9.1]; rfl) ok_L_key rfl lm_L_109 dL_fails_113 rfl rfl rfl (Nat.le_of_ble_eq_true rfl) (Nat.le_of_ble_eq_true rfl) (by omega) (by omega) (fun v9 c9 h9 => ?_)
                  obtain ⟨rfl, rfl⟩ := h9
                  refine wa_bipush (pc' := 118) dL_fails_116 rfl rfl ?_
                  refine wa_icmp_ne (tgt := 149) (pc' := 121) dL_fails_118 (by decide) rfl (by omega) (by omega) (fun c118 => ?_) (fun c118 => ?_)
                  · exact absurd c118 (by omega)
                  · refine wa_aload_n (pc' := 122) dL_fails_121 rfl rfl rfl ?_
                    refine wa_bipush (pc' := 124) dL_fails_122 rfl rfl ?_
                    refine wa_iconst (pc' := 125) dL_fails_124 rfl ?_
                    refine wy_h (pc' := 128) (c0 := (t, nm, s, D, H, ol, ct, k, y, si, fl, wi)) (k_L_key_x t nm s D H ol ct k y si fl wi h (-4) ⟨by omega, by omega⟩ 1 (Or.inr rfl) (e_setKeyx (by omega))) (fun v9 c9 h9 => by rw [h9.1]; rfl) ok_L_key rfl lm_L_109 dL_fails_125 rfl rfl rfl (Nat.le_of_ble_eq_true rfl) (Nat.le_of_ble_eq_true rfl) (by omega) (by omega) (fun v9 c9 h9 => ?_)
                    obtain ⟨rfl, rfl⟩ := h9
                    refine wa_bipush (pc' := 130) dL_fails_128 rfl rfl ?_
                    refine wa_icmp_ne (tgt := 149) (pc' := 133) dL_fails_130 (by decide) rfl (by omega) (by omega) (fun c130 => ?_) (fun c130 => ?_)
                    · exact absurd c130 (by omega)
                    · refine wa_aload_n (pc' := 134) dL_fails_133 rfl rfl rfl ?_
                      refine wa_bipush (pc' := 136) dL_fails_134 rfl rfl ?_
                      refine wa_iconst (pc' := 137) dL_fails_136 rfl ?_
                      refine wy_h (pc' := 140) (c0 := (t, nm, s, D, H, ol, ct, k, y, si, fl, wi)) (k_L_key_x t nm s D H ol ct k y si fl wi h 10 ⟨by omega, by omega⟩ 1 (Or.inr rfl) (e_setKeyx (by omega))) (fun v9 c9 h9 => by rw [h9.1]; rfl) ok_L_key rfl lm_L_109 dL_fails_137 rfl rfl rfl (Nat.le_of_ble_eq_true rfl) (Nat.le_of_ble_eq_true rfl) (by omega) (by omega) (fun v9 c9 h9 => ?_)
                      obtain ⟨rfl, rfl⟩ := h9
                      refine wa_bipush (pc' := 142) dL_fails_140 rfl rfl ?_
                      refine wa_icmp_ne (tgt := 149) (pc' := 145) dL_fails_142 (by decide) rfl (by omega) (by omega) (fun c142 => ?_) (fun c142 => ?_)
                      · exact absurd c142 (by omega)
                      · refine wa_iconst (pc' := 146) dL_fails_145 rfl ?_
                        refine wa_goto (pc' := 150) dL_fails_146 (by decide) ?_
                        refine wa_istore (pc' := 152) (ls' := [(4, _), (3, _), (1, _), (0, _)]) dL_fails_150 rfl (by decide) rfl ?_
                        refine wa_iload (pc' := 154) dL_fails_152 rfl rfl ?_
                        refine wa_if_eq (tgt := 170) (pc' := 157) dL_fails_154 (by decide) rfl (by omega) (fun c154 => ?_) (fun c154 => ?_)
                        · exact absurd c154 (by omega)
                        · refine wa_aload_n (pc' := 158) dL_fails_157 rfl rfl rfl ?_
                          refine wy_x (pc' := 161) (c0 := (t, nm, s, D, H, ol, ct, k, y, si, fl, wi)) (c1 := (t, nm, s, D, H, ol, ct, k, y, si, fl, wi)) (k_X9_fingerprint t nm s D H ol ct k y si fl wi h) (rfl) rfl ok_X9_fingerprint lm_L_86 dL_fails_158 rfl rfl rfl rfl rfl (Nat.le_of_ble_eq_true rfl) (Nat.le_of_ble_eq_true rfl) rfl (by omega) (by omega) ?_
                          refine wa_lload_n (pc' := 162) dL_fails_161 rfl rfl rfl ?_
                          refine wa_lcmpE (pc' := 163) dL_fails_162 rfl rfl ?_
                          refine wa_if_ne (tgt := 170) (pc' := 166) dL_fails_163 (by decide) rfl (by omega) (fun c163 => ?_) (fun c163 => ?_)
                          · exact absurd c163 (by omega)
                          · refine wa_iconst (pc' := 167) dL_fails_166 rfl ?_
                            refine wa_goto (pc' := 171) dL_fails_167 (by decide) ?_
                            refine wa_zret dL_fails_171 rfl (by omega) (by omega) (by omega) ?_
                            exact zLP_i ⟨rfl, rfl⟩ rfl

/-! the sheet that it types -/
set_option maxRecDepth 10000 in
set_option maxHeartbeats 2000000 in
theorem l_sheet101 {mc ms nc0 ns0 : Nat} {Post : zP → List zE → Prop} {t0 : zRw} (nm : zRw) (s D : zSh) (H : Nat → zSh) (ol ct : Int) (k : zKd) (y : zLy) (si fl wi : Int) (q kk : Int) (hq : zin q) (hkk : 0 ≤ kk ∧ kk < 12) (hmc : nc0 + 20 ≤ mc) (hms : ns0 + 120 ≤ ms) (K : ∀ (t1 : zRw) (ch nn : Int) (nc1 ns1 : Nat), okC (t1, nm, s, D, H, ol, ct, k, y, si, fl, wi) → TX t0 t1 ch → (0 ≤ ch ∧ ch ≤ kk + 1) → t1.1 ≤ 16 * kk + 16 → (0 ≤ nn ∧ nn ≤ 200) → nc1 ≤ nc0 + 20 → ns1 ≤ ns0 + 120 → Wa q_L_sheet 10 mc ms 53 Post 8 [(5, zI (kk + 1)), (4, zI ch), (3, zI nn), (0, zR 0), (1, zK 50), (2, zI 0)] [] (wCS (t1, nm, s, D, H, ol, ct, k, y, si, fl, wi)) nc1 ns1) : ∀ (m : Nat) (i : Int) (t1 : zRw) (ch nn : Int) (nc ns : Nat), 0 ≤ i → i + m = upF (zshr q 17) 5 → okC (t1, nm, s, D, H, ol, ct, k, y, si, fl, wi) → TX t0 t1 ch → (0 ≤ ch ∧ ch ≤ kk + 1) → t1.1 ≤ 16 * kk + 12 + i → (0 ≤ nn ∧ nn ≤ 200) → nc + m ≤ nc0 + 20 → ns + 6 * m ≤ ns0 + 120 → Wa q_L_sheet 10 mc ms 53 Post 101 [(7, zI i), (3, zI nn), (6, zI q), (5, zI kk), (4, zI ch), (0, zR 0), (1, zK 50), (2, zI 0)] [] (wCS (t1, nm, s, D, H, ol, ct, k, y, si, fl, wi)) nc ns := by
  have u5 := upF_b (zshr q 17) (m := 5) (by decide)
  have u26 := upF_b (zshr q 20) (m := 26) (by decide)
  intro m
  induction m with
  | zero =>
    intro i t1 ch nn nc ns hi0 hi h hX hch ht hn hnc hns
    refine wa_iload (pc' := 103) dL_sheet_101 rfl rfl ?_
    refine wa_iload (pc' := 105) dL_sheet_103 rfl rfl ?_
    refine wa_bipush (pc' := 107) dL_sheet_105 rfl rfl ?_
    refine wa_ishr (pc' := 108) dL_sheet_107 rfl ?_
    refine wa_iconst (pc' := 109) dL_sheet_108 rfl ?_
    refine wx_n (pc' := 112) (k_L_up (zshr q 17) 5 ⟨by decide, by decide⟩) rfl ok_L_up lm_L_38 dL_sheet_109 rfl rfl rfl (Nat.le_of_ble_eq_true rfl) (Nat.le_of_ble_eq_true rfl) rfl (by omega) (by omega) ?_
    refine wa_icmp_ge (tgt := 139) (pc' := 115) dL_sheet_112 (by decide) rfl (by omega) (by omega) (fun c112 => ?_) (fun c112 => ?_)
    · refine wa_iinc (pc' := 142) (ls' := [(5, _), (7, _), (3, _), (6, _), (4, _), (0, _), (1, _), (2, _)]) dL_sheet_139 rfl rfl (by decide) rfl ?_
      refine wa_goto (pc' := 8) dL_sheet_142 (by decide) ?_
      refine wa_sub [0, 4, 2, 5, 6, 7] rfl ?_
      exact K t1 ch nn _ _ h hX hch (by omega) hn (by omega) (by omega)
    · exact absurd c112 (by omega)
  | succ m ih =>
    intro i t1 ch nn nc ns hi0 hi h hX hch ht hn hnc hns
    have hT1 := h.1.1
    refine wa_iload (pc' := 103) dL_sheet_101 rfl rfl ?_
    refine wa_iload (pc' := 105) dL_sheet_103 rfl rfl ?_
    refine wa_bipush (pc' := 107) dL_sheet_105 rfl rfl ?_
    refine wa_ishr (pc' := 108) dL_sheet_107 rfl ?_
    refine wa_iconst (pc' := 109) dL_sheet_108 rfl ?_
    refine wx_n (pc' := 112) (k_L_up (zshr q 17) 5 ⟨by decide, by decide⟩) rfl ok_L_up lm_L_38 dL_sheet_109 rfl rfl rfl (Nat.le_of_ble_eq_true rfl) (Nat.le_of_ble_eq_true rfl) rfl (by omega) (by omega) ?_
    refine wa_icmp_ge (tgt := 139) (pc' := 115) dL_sheet_112 (by decide) rfl (by omega) (by omega) (fun c112 => ?_) (fun c112 => ?_)
    · exact absurd c112 (by omega)
    · refine wa_aload_n (pc' := 116) dL_sheet_115 rfl rfl rfl ?_
      refine wa_bipush (pc' := 118) dL_sheet_116 rfl rfl ?_
      refine wa_iload (pc' := 120) dL_sheet_118 rfl rfl ?_
      refine wa_bipush (pc' := 122) dL_sheet_120 rfl rfl ?_
      refine wa_ishr (pc' := 123) dL_sheet_122 rfl ?_
      refine wa_bipush (pc' := 125) dL_sheet_123 rfl rfl ?_
      refine wx_n (pc' := 128) (k_L_up (zshr q 20) 26 ⟨by decide, by decide⟩) rfl ok_L_up lm_L_38 dL_sheet_125 rfl rfl rfl (Nat.le_of_ble_eq_true rfl) (Nat.le_of_ble_eq_true rfl) rfl (by omega) (by omega) ?_
      refine wa_iadd (pc' := 129) dL_sheet_128 rfl ?_
      refine wy_x (pc' := 132) (c0 := (t1, nm, s, D, H, ol, ct, k, y, si, fl, wi)) (c1 := (rA t1 (97 + upF (zshr q 20) 26), nm, s, D, H, ol, ct, k, y, si, fl, wi)) (k_X9_type t1 nm s D H ol ct k y si fl wi h (97 + upF (zshr q 20) 26) ⟨by omega, by omega⟩) (e_type (by omega) (by omega)) rfl ok_X9_type lm_L_15 dL_sheet_129 rfl rfl rfl rfl rfl (Nat.le_of_ble_eq_true rfl) (Nat.le_of_ble_eq_true rfl) rfl (by omega) (by omega) ?_
      refine wa_istore_n (pc' := 133) (ls' := [(3, _), (7, _), (6, _), (5, _), (4, _), (0, _), (1, _), (2, _)]) dL_sheet_132 rfl rfl (by decide) rfl ?_
      refine wa_iinc (pc' := 136) (ls' := [(7, _), (3, _), (6, _), (5, _), (4, _), (0, _), (1, _), (2, _)]) dL_sheet_133 rfl rfl (by decide) rfl ?_
      refine wa_goto (pc' := 101) dL_sheet_136 (by decide) ?_
      refine wa_sub [0, 1, 2, 3, 4, 5, 6, 7] rfl ?_
      exact ih (i + 1) (rA t1 (97 + upF (zshr q 20) 26)) ch (t1.1 + 1) _ _ (by omega) (by omega) (okC_t h (okT_rA h.1 (by omega) (by omega))) (TX_c hX (by omega) (by omega) (by omega) (by omega) (by omega)) hch (by show t1.1 + 1 ≤ _; omega) (by omega) (by omega) (by omega)
set_option maxRecDepth 10000 in
set_option maxHeartbeats 2000000 in
theorem l_sheet63 {mc ms nc0 ns0 : Nat} {Post : zP → List zE → Prop} {t0 : zRw} (nm : zRw) (s D : zSh) (H : Nat → zSh) (ol ct : Int) (k : zKd) (y : zLy) (si fl wi : Int) (q kk : Int) (hq : zin q) (hkk : 0 ≤ kk ∧ kk < 12) (hmc : nc0 + 20 ≤ mc) (hms : ns0 + 120 ≤ ms) (K : ∀ (t1 : zRw) (ch nn : Int) (nc1 ns1 : Nat), okC (t1, nm, s, D, H, ol, ct, k, y, si, fl, wi) → TX t0 t1 ch → (0 ≤ ch ∧ ch ≤ kk + 1) → t1.1 ≤ 16 * kk + 16 → (0 ≤ nn ∧ nn ≤ 200) → nc1 ≤ nc0 + 20 → ns1 ≤ ns0 + 120 → Wa q_L_sheet 10 mc ms 53 Post 8 [(5, zI (kk + 1)), (4, zI ch), (3, zI nn), (0, zR 0), (1, zK 50), (2, zI 0)] [] (wCS (t1, nm, s, D, H, ol, ct, k, y, si, fl, wi)) nc1 ns1) (t1 : zRw) (ch nn : Int) (nc ns : Nat) (h : okC (t1, nm, s, D, H, ol, ct, k, y, si, fl, wi)) (hX : TX t0 t1 ch) (hch : 0 ≤ ch ∧ ch ≤ kk) (ht : t1.1 ≤ 16 * kk + 1) (hn : 0 ≤ nn ∧ nn ≤ 200) (hnc : nc ≤ nc0 + 1) (hns : ns ≤ ns0 + 6) : Wa q_L_sheet 10 mc ms 53 Post 63 [(3, zI nn), (6, zI q), (5, zI kk), (4, zI ch), (0, zR 0), (1, zK 50), (2, zI 0)] [] (wCS (t1, nm, s, D, H, ol, ct, k, y, si, fl, wi)) nc ns := by
  have u5 := upF_b (zshr q 17) (m := 5) (by decide)
  have hT1 := h.1.1
  have hz := zin_and (zshr q 15) 1
  have hr := rB_b q
  have hq9 := qB_b q
  have hb := bB_b q
  have n1 := chT_n (rB q) (bB q) hq9
  have l1 := rL_len (rA t1 91) (chT (rB q) (qB q) (bB q))
  have l2 : (rA t1 91).1 = t1.1 + 1 := rfl
  refine wa_iload (pc' := 65) dL_sheet_63 rfl rfl ?_
  refine wa_bipush (pc' := 67) dL_sheet_65 rfl rfl ?_
  refine wa_ishr (pc' := 68) dL_sheet_67 rfl ?_
  refine wa_iconst (pc' := 69) dL_sheet_68 rfl ?_
  refine wa_iand (pc' := 70) dL_sheet_69 rfl ?_
  refine wa_iconst (pc' := 71) dL_sheet_70 rfl ?_
  refine wa_icmp_ne (tgt := 98) (pc' := 74) dL_sheet_71 (by decide) rfl (by omega) (by omega) (fun c71 => ?_) (fun c71 => ?_)
  · refine wa_iconst (pc' := 99) dL_sheet_98 rfl ?_
    refine wa_istore (pc' := 101) (ls' := [(7, _), (3, _), (6, _), (5, _), (4, _), (0, _), (1, _), (2, _)]) dL_sheet_99 rfl (by decide) rfl ?_
    refine wa_sub [0, 1, 2, 3, 4, 5, 6, 7] rfl ?_
    exact l_sheet101 nm s D H ol ct k y si fl wi q kk hq hkk hmc hms K (upF (zshr q 17) 5).toNat 0 t1 ch nn _ _ (by omega) (by omega) h hX (by omega) (by omega) hn (by omega) (by omega)
  · refine wa_aload_n (pc' := 75) dL_sheet_74 rfl rfl rfl ?_
    refine wa_bipush (pc' := 77) dL_sheet_75 rfl rfl ?_
    refine wy_x (pc' := 80) (c0 := (t1, nm, s, D, H, ol, ct, k, y, si, fl, wi)) (c1 := (rA t1 91, nm, s, D, H, ol, ct, k, y, si, fl, wi)) (k_X9_type t1 nm s D H ol ct k y si fl wi h 91 ⟨by omega, by omega⟩) (e_type (by omega) (by omega)) rfl ok_X9_type lm_L_15 dL_sheet_77 rfl rfl rfl rfl rfl (Nat.le_of_ble_eq_true rfl) (Nat.le_of_ble_eq_true rfl) rfl (by omega) (by omega) ?_
    refine wa_istore_n (pc' := 81) (ls' := [(3, _), (6, _), (5, _), (4, _), (0, _), (1, _), (2, _)]) dL_sheet_80 rfl rfl (by decide) rfl ?_
    refine wa_aload_n (pc' := 82) dL_sheet_81 rfl rfl rfl ?_
    refine wa_iload (pc' := 84) dL_sheet_82 rfl rfl ?_
    refine wy_s (pc' := 87) (c0 := (rA t1 91, nm, s, D, H, ol, ct, k, y, si, fl, wi)) (k_L_chord (rA t1 91) nm s D H ol ct k y si fl wi (okC_t h (okT_rA h.1 (by omega) (by omega))) q (by omega)) (fun v9 c9 h9 => by rw [h9.1]; rfl) ok_L_chord lm_L_117 dL_sheet_84 rfl rfl rfl (Nat.le_of_ble_eq_true rfl) (Nat.le_of_ble_eq_true rfl) rfl (by omega) (by omega) (fun v9 c9 h9 => ?_)
    obtain ⟨rfl, rfl⟩ := h9
    refine wa_istore_n (pc' := 88) (ls' := [(3, _), (6, _), (5, _), (4, _), (0, _), (1, _), (2, _)]) dL_sheet_87 rfl rfl (by decide) rfl ?_
    refine wa_aload_n (pc' := 89) dL_sheet_88 rfl rfl rfl ?_
    refine wa_bipush (pc' := 91) dL_sheet_89 rfl rfl ?_
    refine wy_x (pc' := 94) (c0 := (rL (rA t1 91) (chT (rB q) (qB q) (bB q)), nm, s, D, H, ol, ct, k, y, si, fl, wi)) (c1 := (rA (rL (rA t1 91) (chT (rB q) (qB q) (bB q))) 93, nm, s, D, H, ol, ct, k, y, si, fl, wi)) (k_X9_type (rL (rA t1 91) (chT (rB q) (qB q) (bB q))) nm s D H ol ct k y si fl wi (okC_t h (okT_rL _ (okT_rA h.1 (by omega) (by omega)) (by omega) (chT_c _ _ hq9))) 93 ⟨by omega, by omega⟩) (e_type (by omega) (by omega)) rfl ok_X9_type lm_L_15 dL_sheet_91 rfl rfl rfl rfl rfl (Nat.le_of_ble_eq_true rfl) (Nat.le_of_ble_eq_true rfl) rfl (by omega) (by omega) ?_
    refine wa_istore_n (pc' := 95) (ls' := [(3, _), (6, _), (5, _), (4, _), (0, _), (1, _), (2, _)]) dL_sheet_94 rfl rfl (by decide) rfl ?_
    refine wa_iinc (pc' := 98) (ls' := [(4, _), (3, _), (6, _), (5, _), (0, _), (1, _), (2, _)]) dL_sheet_95 rfl rfl (by decide) rfl ?_
    refine wa_iconst (pc' := 99) dL_sheet_98 rfl ?_
    refine wa_istore (pc' := 101) (ls' := [(7, _), (4, _), (3, _), (6, _), (5, _), (0, _), (1, _), (2, _)]) dL_sheet_99 rfl (by decide) rfl ?_
    refine wa_sub [0, 2, 3, 4, 1, 5, 6, 7] rfl ?_
    exact l_sheet101 nm s D H ol ct k y si fl wi q kk hq hkk hmc hms K (upF (zshr q 17) 5).toNat 0 (rA (rL (rA t1 91) (chT (rB q) (qB q) (bB q))) 93) (ch + 1) _ _ _ (by omega) (by omega) (okC_t h (TX_ch hX (by omega) hr hq9 hb).1) (TX_ch hX (by omega) hr hq9 hb) (by omega) (by show (rL (rA t1 91) (chT (rB q) (qB q) (bB q))).1 + 1 ≤ _; omega) (by show 0 ≤ (rL (rA t1 91) (chT (rB q) (qB q) (bB q))).1 + 1 ∧ (rL (rA t1 91) (chT (rB q) (qB q) (bB q))).1 + 1 ≤ 200; omega) (by omega) (by omega)
set_option maxRecDepth 10000 in
set_option maxHeartbeats 2000000 in
theorem l_sheet8 {t0 : zRw} (nm : zRw) (s D : zSh) (H : Nat → zSh) (ol ct : Int) (k : zKd) (y : zLy) (si fl wi : Int) : ∀ (m : Nat) (kk : Int) (t1 : zRw) (ch nn : Int) (nc ns : Nat), 0 ≤ kk → kk + m = 12 → okC (t1, nm, s, D, H, ol, ct, k, y, si, fl, wi) → TX t0 t1 ch → (0 ≤ ch ∧ ch ≤ kk) → t1.1 ≤ 16 * kk → (0 ≤ nn ∧ nn ≤ 200) → nc + 20 * m ≤ 240 → ns + 120 * m ≤ 1440 → Wa q_L_sheet 10 240 1440 53 (zLP fun v c => ∃ (n : Int) (t1 : zRw), v = zI n ∧ (0 ≤ n ∧ n ≤ 12) ∧ TX t0 t1 n ∧ okC (t1, nm, s, D, H, ol, ct, k, y, si, fl, wi) ∧ c = (t1, nm, s, D, H, ol, ct, k, y, si, fl, wi)) 8 [(5, zI kk), (4, zI ch), (3, zI nn), (0, zR 0), (1, zK 50), (2, zI 0)] [] (wCS (t1, nm, s, D, H, ol, ct, k, y, si, fl, wi)) nc ns := by
  intro m
  induction m with
  | zero =>
    intro kk t1 ch nn nc ns hk0 hk h hX hch ht hn hnc hns
    refine wa_iload (pc' := 10) dL_sheet_8 rfl rfl ?_
    refine wa_bipush (pc' := 12) dL_sheet_10 rfl rfl ?_
    refine wa_icmp_ge (tgt := 145) (pc' := 15) dL_sheet_12 (by decide) rfl (by omega) (by omega) (fun c12 => ?_) (fun c12 => ?_)
    · refine wa_iload_n (pc' := 146) dL_sheet_145 rfl rfl rfl ?_
      refine wa_if_ge (tgt := 153) (pc' := 149) dL_sheet_146 (by decide) rfl (by omega) (fun c146 => ?_) (fun c146 => ?_)
      · refine wa_iload (pc' := 155) dL_sheet_153 rfl rfl ?_
        refine wa_iret dL_sheet_155 rfl (by omega) (by omega) ?_
        exact zLP_i ⟨ch, t1, rfl, by omega, hX, h, rfl⟩ rfl
      · exact absurd c146 (by omega)
    · exact absurd c12 (by omega)
  | succ m ih =>
    intro kk t1 ch nn nc ns hk0 hk h hX hch ht hn hnc hns
    have hT1 := h.1.1
    refine wa_iload (pc' := 10) dL_sheet_8 rfl rfl ?_
    refine wa_bipush (pc' := 12) dL_sheet_10 rfl rfl ?_
    refine wa_icmp_ge (tgt := 145) (pc' := 15) dL_sheet_12 (by decide) rfl (by omega) (by omega) (fun c12 => ?_) (fun c12 => ?_)
    · exact absurd c12 (by omega)
    · refine wa_aload_n (pc' := 16) dL_sheet_15 rfl rfl rfl ?_
      refine wa_iload_n (pc' := 17) dL_sheet_16 rfl rfl rfl ?_
      refine wa_iload (pc' := 19) dL_sheet_17 rfl rfl ?_
      refine wa_iadd (pc' := 20) dL_sheet_19 rfl ?_
      refine wx_e (pc' := 23) (k_L_cell (0 + kk) ⟨by omega, by omega⟩) ok_L_cell lm_L_113 dL_sheet_20 rfl rfl rfl (Nat.le_of_ble_eq_true rfl) (Nat.le_of_ble_eq_true rfl) rfl (by omega) (by omega) (fun q hq => ?_)
      have hz := zin_and (zshr q 13) 3
      refine wa_istore (pc' := 25) (ls' := [(6, _), (5, _), (4, _), (3, _), (0, _), (1, _), (2, _)]) dL_sheet_23 rfl (by decide) rfl ?_
      refine wa_iload (pc' := 27) dL_sheet_25 rfl rfl ?_
      refine wa_bipush (pc' := 29) dL_sheet_27 rfl rfl ?_
      refine wa_ishr (pc' := 30) dL_sheet_29 rfl ?_
      refine wa_iconst (pc' := 31) dL_sheet_30 rfl ?_
      refine wa_iand (pc' := 32) dL_sheet_31 rfl ?_
      refine wa_if_ne (tgt := 45) (pc' := 35) dL_sheet_32 (by decide) rfl (by omega) (fun c32 => ?_) (fun c32 => ?_)
      · refine wa_iload (pc' := 47) dL_sheet_45 rfl rfl ?_
        refine wa_bipush (pc' := 49) dL_sheet_47 rfl rfl ?_
        refine wa_ishr (pc' := 50) dL_sheet_49 rfl ?_
        refine wa_iconst (pc' := 51) dL_sheet_50 rfl ?_
        refine wa_iand (pc' := 52) dL_sheet_51 rfl ?_
        refine wa_iconst (pc' := 53) dL_sheet_52 rfl ?_
        refine wa_icmp_ne (tgt := 63) (pc' := 56) dL_sheet_53 (by decide) rfl (by omega) (by omega) (fun c53 => ?_) (fun c53 => ?_)
        · refine wa_sub [3, 0, 1, 2, 4, 5, 6] rfl ?_
          exact l_sheet63 (nc0 := nc) (ns0 := ns) (t0 := t0) nm s D H ol ct k y si fl wi q kk hq (by omega) (by omega) (by omega) (fun t2 ch2 nn2 nc2 ns2 g1 g2 g3 g4 g5 g6 g7 => ih (kk + 1) t2 ch2 nn2 nc2 ns2 (by omega) (by omega) g1 g2 g3 (by omega) g5 (by omega) (by omega)) t1 ch nn _ _ h hX hch (by first | omega | (show t1.1 + 1 ≤ _; omega)) (by omega) (by omega) (by omega)
        · refine wa_aload_n (pc' := 57) dL_sheet_56 rfl rfl rfl ?_
          refine wa_bipush (pc' := 59) dL_sheet_57 rfl rfl ?_
          refine wy_x (pc' := 62) (c0 := (t1, nm, s, D, H, ol, ct, k, y, si, fl, wi)) (c1 := (rA t1 32, nm, s, D, H, ol, ct, k, y, si, fl, wi)) (k_X9_type t1 nm s D H ol ct k y si fl wi h 32 ⟨by omega, by omega⟩) (e_type (by omega) (by omega)) rfl ok_X9_type lm_L_15 dL_sheet_59 rfl rfl rfl rfl rfl (Nat.le_of_ble_eq_true rfl) (Nat.le_of_ble_eq_true rfl) rfl (by omega) (by omega) ?_
          refine wa_istore_n (pc' := 63) (ls' := [(3, _), (6, _), (5, _), (4, _), (0, _), (1, _), (2, _)]) dL_sheet_62 rfl rfl (by decide) rfl ?_
          refine wa_sub [0, 1, 2, 3, 4, 5, 6] rfl ?_
          exact l_sheet63 (nc0 := nc) (ns0 := ns) (t0 := t0) nm s D H ol ct k y si fl wi q kk hq (by omega) (by omega) (by omega) (fun t2 ch2 nn2 nc2 ns2 g1 g2 g3 g4 g5 g6 g7 => ih (kk + 1) t2 ch2 nn2 nc2 ns2 (by omega) (by omega) g1 g2 g3 (by omega) g5 (by omega) (by omega)) (rA t1 32) ch (t1.1 + 1) _ _ (okC_t h (okT_rA h.1 (by omega) (by omega))) (TX_c hX (by omega) (by omega) (by omega) (by omega) (by omega)) hch (by first | omega | (show t1.1 + 1 ≤ _; omega)) (by omega) (by omega) (by omega)
      · refine wa_aload_n (pc' := 36) dL_sheet_35 rfl rfl rfl ?_
        refine wa_bipush (pc' := 38) dL_sheet_36 rfl rfl ?_
        refine wy_x (pc' := 41) (c0 := (t1, nm, s, D, H, ol, ct, k, y, si, fl, wi)) (c1 := (rA t1 47, nm, s, D, H, ol, ct, k, y, si, fl, wi)) (k_X9_type t1 nm s D H ol ct k y si fl wi h 47 ⟨by omega, by omega⟩) (e_type (by omega) (by omega)) rfl ok_X9_type lm_L_15 dL_sheet_38 rfl rfl rfl rfl rfl (Nat.le_of_ble_eq_true rfl) (Nat.le_of_ble_eq_true rfl) rfl (by omega) (by omega) ?_
        refine wa_istore_n (pc' := 42) (ls' := [(3, _), (6, _), (5, _), (4, _), (0, _), (1, _), (2, _)]) dL_sheet_41 rfl rfl (by decide) rfl ?_
        refine wa_goto (pc' := 63) dL_sheet_42 (by decide) ?_
        refine wa_sub [0, 1, 2, 3, 4, 5, 6] rfl ?_
        exact l_sheet63 (nc0 := nc) (ns0 := ns) (t0 := t0) nm s D H ol ct k y si fl wi q kk hq (by omega) (by omega) (by omega) (fun t2 ch2 nn2 nc2 ns2 g1 g2 g3 g4 g5 g6 g7 => ih (kk + 1) t2 ch2 nn2 nc2 ns2 (by omega) (by omega) g1 g2 g3 (by omega) g5 (by omega) (by omega)) (rA t1 47) ch (t1.1 + 1) _ _ (okC_t h (okT_rA h.1 (by omega) (by omega))) (TX_c hX (by omega) (by omega) (by omega) (by omega) (by omega)) hch (by first | omega | (show t1.1 + 1 ≤ _; omega)) (by omega) (by omega) (by omega)
set_option maxRecDepth 10000 in
set_option maxHeartbeats 2000000 in
theorem k_L_sheet (t nm : zRw) (s D : zSh) (H : Nat → zSh) (ol ct : Int) (k : zKd) (y : zLy) (si fl wi : Int) (h : okC (t, nm, s, D, H, ol, ct, k, y, si, fl, wi)) (h0 : t.1 = 0) : zMet q_L_sheet 10 240 1440 [zR 0, zK 50, zI 0] (wCS (t, nm, s, D, H, ol, ct, k, y, si, fl, wi)) (zLP fun v c => ∃ (n : Int) (t1 : zRw), v = zI n ∧ (0 ≤ n ∧ n ≤ 12) ∧ TX t t1 n ∧ okC (t1, nm, s, D, H, ol, ct, k, y, si, fl, wi) ∧ c = (t1, nm, s, D, H, ol, ct, k, y, si, fl, wi)) := by
  refine z_introF (ls := [(0, _), (1, _), (2, _)]) (by decide +kernel) rfl (fun _ _ => rfl) (fun _ _ => Nat.le_of_ble_eq_true rfl) ?_
  refine wa_iconst (pc' := 1) dL_sheet_0 rfl ?_
  refine wa_istore_n (pc' := 2) (ls' := [(3, _), (0, _), (1, _), (2, _)]) dL_sheet_1 rfl rfl (by decide) rfl ?_
  refine wa_iconst (pc' := 3) dL_sheet_2 rfl ?_
  refine wa_istore (pc' := 5) (ls' := [(4, _), (3, _), (0, _), (1, _), (2, _)]) dL_sheet_3 rfl (by decide) rfl ?_
  refine wa_iconst (pc' := 6) dL_sheet_5 rfl ?_
  refine wa_istore (pc' := 8) (ls' := [(5, _), (4, _), (3, _), (0, _), (1, _), (2, _)]) dL_sheet_6 rfl (by decide) rfl ?_
  refine wa_sub [0, 1, 2, 3, 4, 5] rfl ?_
  exact l_sheet8 nm s D H ol ct k y si fl wi 12 0 t 0 0 0 0 (by decide) (by decide) h ⟨h.1, [], rfl, Wf_nil⟩ (by decide) (by omega) (by decide) (by decide) (by decide)

