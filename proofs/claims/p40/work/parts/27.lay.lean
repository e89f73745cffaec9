/-! Layout -/
/-- rows of chords and of lyrics; line, width, begin, chord, end, endChord, endChordSize, endLyricSize -/
abbrev zLy : Type := zRw × zRw × Int × Int × Int × Int × Int × Int × Int × Int
abbrev wLy (s : zSh) (y : zLy) : List zE := [zO 1 [zR 1, zR 5, zR 7, zI y.2.2.1, zI y.2.2.2.1, zI y.2.2.2.2.1, zI y.2.2.2.2.2.1, zI y.2.2.2.2.2.2.1, zI y.2.2.2.2.2.2.2.1, zI y.2.2.2.2.2.2.2.2.1, zI y.2.2.2.2.2.2.2.2.2], zO 4 [zR 2, zR 3, zI s.2.2.2.1, zR 4, zI s.2.2.2.2.1, zI s.2.2.2.2.2.1, zI s.2.2.2.2.2.2], zA 1 200 s.1, zA 0 202 s.2.1, zA 0 200 s.2.2.1, zO 3 [zR 6, zI y.1.1], zA 1 680 y.1.2, zO 3 [zR 8, zI y.2.1.1], zA 1 680 y.2.1.2]
/-- the bounds of a sheet's chords: what their names need -/
def okN (s : zSh) : Prop := ∀ i : Int, 0 ≤ i → i < s.2.2.2.2.1 → (-9 ≤ s.2.2.1 (i * 5 + 2) ∧ s.2.2.1 (i * 5 + 2) ≤ 14) ∧ (0 ≤ s.2.2.1 (i * 5 + 3) ∧ s.2.2.1 (i * 5 + 3) < 10) ∧ (s.2.2.1 (i * 5 + 4) = 100 ∨ (-9 ≤ s.2.2.1 (i * 5 + 4) ∧ s.2.2.1 (i * 5 + 4) ≤ 14))
theorem noteL_n {p : Int} (h : -9 ≤ p ∧ p ≤ 14) : (noteL p).length ≤ 3 := by
  have h2 : ∀ k : Nat, k < 24 → (noteL ((k : Int) - 9)).length ≤ 3 := by decide
  have := h2 (p + 9).toNat (by omega)
  rwa [show (((p + 9).toNat : Nat) : Int) - 9 = p by omega] at this
theorem zby_n {q : Int} (h : 0 ≤ q ∧ q < 10) : (zBytes.getD q.toNat []).length ≤ 4 := by
  have h2 : ∀ k : Nat, k < 10 → (zBytes.getD k []).length ≤ 4 := by decide
  exact h2 _ (by omega)
theorem nameL_n {r q b : Int} (hr : -9 ≤ r ∧ r ≤ 14) (hq : 0 ≤ q ∧ q < 10) (hb : b = 100 ∨ (-9 ≤ b ∧ b ≤ 14)) : (nameL r q b).length ≤ 11 := by
  have h1 := noteL_n hr
  have h2 := zby_n hq
  unfold nameL
  rw [List.length_append, List.length_append]
  split
  · simp only [List.length_nil]; omega
  · have h3 := noteL_n (p := b) (by omega)
    rw [List.length_cons]
    omega
def isLt (s : zSh) (l i : Int) : Int := if ltr s.1 s.2.1 l i = -1 ∨ ltr s.1 s.2.1 l i = 32 then 0 else 1
def inB (s : zSh) (y : zLy) (i : Int) : Int := if y.2.2.2.2.1 < i ∧ isLt s y.2.2.1 i = 1 ∧ ltr s.1 s.2.1 y.2.2.1 (i - 1) = 32 then 1 else 0
def offF (y : zLy) : Int := if y.1.1 ≤ y.2.2.2.1 ∧ y.2.1.1 ≤ y.2.2.2.1 then 1 else 0
def offE (y : zLy) (i : Int) : zLy := if offF y = 1 ∨ y.2.2.2.2.2.2.1 = -1 then (y.1, y.2.1, y.2.2.1, y.2.2.2.1, y.2.2.2.2.1, y.2.2.2.2.2.1, i, y.2.2.2.2.2.1, y.1.1, y.2.1.1) else y
def rC (r : zRw) (k : Int) : zRw := (if 0 ≤ k ∧ k < r.1 then k else r.1, r.2)
def cutB (y : zLy) : zLy := (rC y.1 y.2.2.2.2.2.2.2.2.1, rC y.2.1 y.2.2.2.2.2.2.2.2.2, y.2.2.1, y.2.2.2.1, y.2.2.2.2.1, y.2.2.2.2.2.1, y.2.2.2.2.2.2.1, y.2.2.2.2.2.2.2.1, y.2.2.2.2.2.2.2.2.1, y.2.2.2.2.2.2.2.2.2)
def plB (y : zLy) (f : Int) : zRw := if 0 < y.1.1 then rL y.2.1 (List.replicate (y.1.1 + 1 - y.2.1.1).toNat f) else y.2.1
def plO (s : zSh) (f : Int) (y : zLy) : zLy := (rL (rL y.1 (List.replicate ((plB y f).1 - y.1.1).toNat 32)) (nameL (s.2.2.1 (y.2.2.2.2.2.1 * 5 + 2)) (s.2.2.1 (y.2.2.2.2.2.1 * 5 + 3)) (s.2.2.1 (y.2.2.2.2.2.1 * 5 + 4))), plB y f, y.2.2.1, y.2.2.2.1, y.2.2.2.2.1, y.2.2.2.2.2.1 + 1, y.2.2.2.2.2.2.1, y.2.2.2.2.2.2.2.1, y.2.2.2.2.2.2.2.2.1, y.2.2.2.2.2.2.2.2.2)
def plC (s : zSh) (i f : Int) : Nat → zLy → zLy
  | 0, y => y
  | m + 1, y => if y.2.2.2.2.2.1 < s.2.2.2.2.1 ∧ s.2.2.1 (y.2.2.2.2.2.1 * 5 + 0) = y.2.2.1 ∧ s.2.2.1 (y.2.2.2.2.2.1 * 5 + 1) = i then plC s i f m (plO s f y) else y
def plcF (s : zSh) (y : zLy) (i : Int) : Int := if isLt s y.2.2.1 (i - 1) = 1 ∧ isLt s y.2.2.1 i = 1 then 45 else 32
def plc (s : zSh) (y : zLy) (i : Int) : zLy := plC s i (plcF s y i) s.2.2.2.2.1.toNat y
def layS (s : zSh) (y : zLy) (i : Int) : zLy := ((plc s y i).1, rA (plc s y i).2.1 (ltr s.1 s.2.1 y.2.2.1 i), (plc s y i).2.2.1, (plc s y i).2.2.2.1, (plc s y i).2.2.2.2.1, (plc s y i).2.2.2.2.2.1, (plc s y i).2.2.2.2.2.2.1, (plc s y i).2.2.2.2.2.2.2.1, (plc s y i).2.2.2.2.2.2.2.2.1, (plc s y i).2.2.2.2.2.2.2.2.2)
def layF (s : zSh) (len g : Int) (y : zLy) : zLy := cutB (if g = 0 then y else offE (plc s y len) len)
def layK (s : zSh) (len : Int) : Nat → Int → Int → zLy → zLy
  | 0, _, g, y => layF s len g y
  | m + 1, i, g, y =>
    if g = 0 ∨ len ≤ i then layF s len g y
    else if inB s y i = 0 then layK s len m (i + 1) 1 (layS s y i)
    else if offF y = 1 then layK s len m (i + 1) 1 (layS s (offE y i) i)
    else layK s len m (i + 1) 0 (offE y i)
def lay0 (y : zLy) : zLy := (rC y.1 0, rC y.2.1 0, y.2.2.1, y.2.2.2.1, max y.2.2.2.2.2.2.1 0, y.2.2.2.2.2.2.2.1, -1, y.2.2.2.2.2.2.2.1, y.2.2.2.2.2.2.2.2.1, y.2.2.2.2.2.2.2.2.2)
def layN (s : zSh) (y : zLy) : zLy := if s.2.1 (y.2.2.1 + 1) - s.2.1 y.2.2.1 ≤ y.2.2.2.2.2.2.1 then y else layK s (s.2.1 (y.2.2.1 + 1) - s.2.1 y.2.2.1) 201 (max y.2.2.2.2.2.2.1 0) 1 (lay0 y)
def okY (s : zSh) (i : Int) (y : zLy) : Prop := (0 ≤ y.1.1 ∧ y.1.1 ≤ i + 12 * y.2.2.2.2.2.1) ∧ (0 ≤ y.2.1.1 ∧ y.2.1.1 ≤ i + 12 * y.2.2.2.2.2.1) ∧ (0 ≤ y.2.2.2.2.2.1 ∧ y.2.2.2.2.2.1 ≤ s.2.2.2.2.1) ∧ (0 ≤ y.2.2.2.2.2.2.2.2.1 ∧ y.2.2.2.2.2.2.2.2.1 ≤ 680) ∧ (0 ≤ y.2.2.2.2.2.2.2.2.2 ∧ y.2.2.2.2.2.2.2.2.2 ≤ 680) ∧ (-1 ≤ y.2.2.2.2.2.2.1 ∧ y.2.2.2.2.2.2.1 ≤ 200) ∧ (0 ≤ y.2.2.2.2.1 ∧ y.2.2.2.2.1 ≤ 200) ∧ (0 ≤ y.2.2.2.2.2.2.2.1 ∧ y.2.2.2.2.2.2.2.1 ≤ s.2.2.2.2.1) ∧ (0 ≤ y.2.2.1 ∧ y.2.2.1 ≤ 200) ∧ zin y.2.2.2.1
theorem rL_rep (r : zRw) (n : Nat) (c : Int) : (rL r (List.replicate n c)).1 = r.1 + n := by rw [rL_len, List.length_replicate]
theorem plB_n {y : zLy} (f : Int) (h : 0 ≤ y.2.1.1) : (plB y f).1 = if 0 < y.1.1 then max y.2.1.1 (y.1.1 + 1) else y.2.1.1 := by
  unfold plB
  split
  · rw [rL_rep]; omega
  · rfl
theorem plO_ok {s : zSh} {i f : Int} {y : zLy} (h : okY s i y) (hs : okN s) (hc : y.2.2.2.2.2.1 < s.2.2.2.2.1) : okY s i (plO s f y) := by
  obtain ⟨h1, h2, h3, h4⟩ := h
  obtain ⟨n1, n2, n3⟩ := hs y.2.2.2.2.2.1 h3.1 hc
  have hn := nameL_n n1 n2 n3
  have hb := plB_n f h2.1
  have hA : (plO s f y).1.1 = y.1.1 + ((plB y f).1 - y.1.1).toNat + (nameL (s.2.2.1 (y.2.2.2.2.2.1 * 5 + 2)) (s.2.2.1 (y.2.2.2.2.2.1 * 5 + 3)) (s.2.2.1 (y.2.2.2.2.2.1 * 5 + 4))).length := by
    show (rL (rL _ _) _).1 = _
    rw [rL_len, rL_rep]
  have hC : (plO s f y).2.2.2.2.2.1 = y.2.2.2.2.2.1 + 1 := rfl
  have hB : (plO s f y).2.1.1 = (plB y f).1 := rfl
  refine ⟨?_, ?_, ?_, h4⟩
  · rw [hA, hC]
    split at hb <;> omega
  · rw [hB, hC]
    split at hb <;> omega
  · rw [hC]
    omega
theorem plC_ln (s : zSh) (i f : Int) : ∀ (m : Nat) (y : zLy), (plC s i f m y).2.2.1 = y.2.2.1
  | 0, y => rfl
  | m + 1, y => by
    rw [plC]
    split
    · exact plC_ln s i f m _
    · rfl
theorem plC_ok {s : zSh} {i f : Int} (hs : okN s) : ∀ (m : Nat) (y : zLy), okY s i y → okY s i (plC s i f m y)
  | 0, y, h => h
  | m + 1, y, h => by
    rw [plC]
    split
    · exact plC_ok hs m _ (plO_ok h hs (by omega))
    · exact h
theorem plc_ok {s : zSh} {i : Int} {y : zLy} (hs : okN s) (h : okY s i y) : okY s i (plc s y i) := plC_ok hs _ _ h
theorem offE_ok {s : zSh} {i k : Int} {y : zLy} (h : okY s i y) (hi : i ≤ 200) (hc : s.2.2.2.2.1 ≤ 40) (hk : 0 ≤ k ∧ k ≤ 200) : okY s i (offE y k) := by
  unfold offE
  split
  · obtain ⟨h1, h2, h3, h4, h5, h6, h7, h8, h9⟩ := h
    exact ⟨h1, h2, h3, ⟨h1.1, by show y.1.1 ≤ 680; omega⟩, ⟨h2.1, by show y.2.1.1 ≤ 680; omega⟩, ⟨by show -1 ≤ k; omega, hk.2⟩, h7, h3, h9⟩
  · exact h
theorem layS_ok {s : zSh} {i : Int} {y : zLy} (hs : okN s) (h : okY s i y) : okY s (i + 1) (layS s y i) := by
  obtain ⟨h1, h2, h3, h4⟩ := plc_ok hs h
  exact ⟨⟨h1.1, by show (plc s y i).1.1 ≤ _ + 12 * (plc s y i).2.2.2.2.2.1; omega⟩, ⟨by show 0 ≤ (plc s y i).2.1.1 + 1; omega, by show (plc s y i).2.1.1 + 1 ≤ _ + 12 * (plc s y i).2.2.2.2.2.1; omega⟩, h3, h4⟩
theorem ltr_b {s : zSh} (hT : ∀ k : Int, 0 ≤ k → k ≤ 201 → 0 ≤ s.2.1 k ∧ s.2.1 k ≤ 200) (hL : ∀ j : Int, 0 ≤ j → j < 200 → 0 ≤ s.1 j ∧ s.1 j < 65536) (l k : Int) (hl : 0 ≤ l ∧ l ≤ 200) : -1 ≤ ltr s.1 s.2.1 l k ∧ ltr s.1 s.2.1 l k < 65536 := by
  have t1 := hT l (by omega) (by omega)
  have t2 := hT (l + 1) (by omega) (by omega)
  unfold ltr
  split
  · have := hL (s.2.1 l + k) (by omega) (by omega)
    omega
  · omega
set_option maxRecDepth 10000 in
set_option maxHeartbeats 1000000 in
theorem k_X3_start (s : zSh) (y : zLy) (l w : Int) (hl : zin l) (hc : 0 ≤ s.2.2.2.2.1 ∧ s.2.2.2.2.1 ≤ 40) (hF : ∀ j : Int, 0 ≤ j → j < 200 → -1000 ≤ s.2.2.1 j ∧ s.2.2.1 j ≤ 1000) : zMet q_X3_start 3 0 0 [zR 0, zI l, zI w] (wLy s y) (zD none (wLy s (y.1, y.2.1, l, w, y.2.2.2.2.1, y.2.2.2.2.2.1, -1, cUT s.2.2.1 l (-1) s.2.2.2.2.1.toNat 0, y.2.2.2.2.2.2.2.2.1, y.2.2.2.2.2.2.2.2.2))) := by
  refine z_introF (ls := [(0, _), (1, _), (2, _)]) (by decide +kernel) rfl (fun _ _ => rfl) (fun _ _ => Nat.le_of_ble_eq_true rfl) ?_
  refine wa_aload_n (pc' := 1) dX3_start_0 rfl rfl rfl ?_
  refine wa_iload_n (pc' := 2) dX3_start_1 rfl rfl rfl ?_
  refine wa_putfield (pc' := 5) (j := 3) (w' := [zO _ [_, _, _, _, _, _, _, _, _, _, _], _, _, _, _, _, _, _, _]) zc_X3 lk_X3_39 dX3_start_2 rfl (by decide) rfl rfl (Nat.le_of_ble_eq_true rfl) True.intro rfl ?_
  refine wa_aload_n (pc' := 6) dX3_start_5 rfl rfl rfl ?_
  refine wa_iload_n (pc' := 7) dX3_start_6 rfl rfl rfl ?_
  refine wa_putfield (pc' := 10) (j := 4) (w' := [zO _ [_, _, _, _, _, _, _, _, _, _, _], _, _, _, _, _, _, _, _]) zc_X3 lk_X3_43 dX3_start_7 rfl (by decide) rfl rfl (Nat.le_of_ble_eq_true rfl) True.intro rfl ?_
  refine wa_aload_n (pc' := 11) dX3_start_10 rfl rfl rfl ?_
  refine wa_iconst (pc' := 12) dX3_start_11 rfl ?_
  refine wa_putfield (pc' := 15) (j := 7) (w' := [zO _ [_, _, _, _, _, _, _, _, _, _, _], _, _, _, _, _, _, _, _]) zc_X3 lk_X3_46 dX3_start_12 rfl (by decide) rfl rfl (Nat.le_of_ble_eq_true rfl) True.intro rfl ?_
  refine wa_aload_n (pc' := 16) dX3_start_15 rfl rfl rfl ?_
  refine wa_aload_n (pc' := 17) dX3_start_16 rfl rfl rfl ?_
  refine wa_getfield (pc' := 20) (j := 0) zc_X3 lk_X3_21 dX3_start_17 rfl (by decide) rfl rfl ?_
  refine wa_iload_n (pc' := 21) dX3_start_20 rfl rfl rfl ?_
  refine wa_iconst (pc' := 22) dX3_start_21 rfl ?_
  refine wa_rV (pc' := 25) (k_X8_countUpTo s.1 s.2.1 s.2.2.1 s.2.2.2.1 s.2.2.2.2.1 s.2.2.2.2.2.1 s.2.2.2.2.2.2 l (-1) (by omega) (by omega) (by omega) hF) ok_X8_countUpTo lm_X3_49 dX3_start_22 rfl [1, 2, 3, 4] rfl (by decide) rfl rfl rfl rfl rfl (by decide) (Nat.le_of_ble_eq_true rfl) rfl (by decide) (by decide) rfl ?_
  refine wa_putfield (pc' := 28) (j := 8) (w' := [zO _ [_, _, _, _, _, _, _, _, _, _, _], _, _, _, _, _, _, _, _]) zc_X3 lk_X3_53 dX3_start_25 rfl (by decide) rfl rfl (Nat.le_of_ble_eq_true rfl) True.intro rfl ?_
  refine wa_vret dX3_start_28 rfl (by decide) (by decide) ?_
  exact ⟨rfl, rfl⟩

set_option maxRecDepth 10000 in
set_option maxHeartbeats 1000000 in
theorem k_X3_isLetter (s : zSh) (y : zLy) (k : Int) (hl : 0 ≤ y.2.2.1 ∧ y.2.2.1 ≤ 200) (hk : -1000 ≤ k ∧ k ≤ 1000) (hT : ∀ k : Int, 0 ≤ k → k ≤ 201 → 0 ≤ s.2.1 k ∧ s.2.1 k ≤ 200) (hL : ∀ j : Int, 0 ≤ j → j < 200 → 0 ≤ s.1 j ∧ s.1 j < 65536) : zMet q_X3_isLetter 2 0 0 [zR 0, zI k] (wLy s y) (zD (some (zI (isLt s y.2.2.1 k))) (wLy s y)) := by
  refine z_introF (ls := [(0, _), (1, _)]) (by decide +kernel) rfl (fun _ _ => rfl) (fun _ _ => Nat.le_of_ble_eq_true rfl) ?_
  have g0 := ltr_b hT hL y.2.2.1 k hl
  refine wa_aload_n (pc' := 1) dX3_isLetter_0 rfl rfl rfl ?_
  refine wa_getfield (pc' := 4) (j := 0) zc_X3 lk_X3_21 dX3_isLetter_1 rfl (by decide) rfl rfl ?_
  refine wa_aload_n (pc' := 5) dX3_isLetter_4 rfl rfl rfl ?_
  refine wa_getfield (pc' := 8) (j := 3) zc_X3 lk_X3_39 dX3_isLetter_5 rfl (by decide) rfl rfl ?_
  refine wa_iload_n (pc' := 9) dX3_isLetter_8 rfl rfl rfl ?_
  refine wa_rV (pc' := 12) (k_X8_letterAt s.1 s.2.1 s.2.2.1 s.2.2.2.1 s.2.2.2.2.1 s.2.2.2.2.2.1 s.2.2.2.2.2.2 y.2.2.1 k (by omega) (by omega) hT) ok_X8_letterAt lm_X3_84 dX3_isLetter_9 rfl [1, 2, 3, 4] rfl (by decide) rfl rfl rfl rfl rfl (by decide) (Nat.le_of_ble_eq_true rfl) rfl (by decide) (by decide) rfl ?_
  show Wa _ _ _ _ _ _ _ _ [zI (ltr s.1 s.2.1 y.2.2.1 (k))] _ _ _
  refine wa_istore_n (pc' := 13) (ls' := [(2, _), (0, _), (1, _)]) dX3_isLetter_12 rfl rfl (by decide) rfl ?_
  refine wa_iload_n (pc' := 14) dX3_isLetter_13 rfl rfl rfl ?_
  refine wa_iconst (pc' := 15) dX3_isLetter_14 rfl ?_
  refine wa_icmp_eq (tgt := 28) (pc' := 18) dX3_isLetter_15 (by decide) rfl (by omega) (by omega) (fun c15 => ?_) (fun c15 => ?_)
  · refine wa_iconst (pc' := 29) dX3_isLetter_28 rfl ?_
    refine wa_zret dX3_isLetter_29 rfl (by decide) (by decide) (by omega) ?_
    exact zD_i (by unfold isLt; first | rw [if_pos (by omega)] | rw [if_neg (by omega)]) rfl
  · refine wa_iload_n (pc' := 19) dX3_isLetter_18 rfl rfl rfl ?_
    refine wa_bipush (pc' := 21) dX3_isLetter_19 rfl rfl ?_
    refine wa_icmp_eq (tgt := 28) (pc' := 24) dX3_isLetter_21 (by decide) rfl (by omega) (by omega) (fun c21 => ?_) (fun c21 => ?_)
    · refine wa_iconst (pc' := 29) dX3_isLetter_28 rfl ?_
      refine wa_zret dX3_isLetter_29 rfl (by decide) (by decide) (by omega) ?_
      exact zD_i (by unfold isLt; first | rw [if_pos (by omega)] | rw [if_neg (by omega)]) rfl
    · refine wa_iconst (pc' := 25) dX3_isLetter_24 rfl ?_
      refine wa_goto (pc' := 29) dX3_isLetter_25 (by decide) ?_
      refine wa_zret dX3_isLetter_29 rfl (by decide) (by decide) (by omega) ?_
      exact zD_i (by unfold isLt; first | rw [if_pos (by omega)] | rw [if_neg (by omega)]) rfl

set_option maxRecDepth 10000 in
set_option maxHeartbeats 1000000 in
theorem k_X3_isInnerBreak (s : zSh) (y : zLy) (k : Int) (hl : 0 ≤ y.2.2.1 ∧ y.2.2.1 ≤ 200) (hk : -900 ≤ k ∧ k ≤ 900) (hb : zin y.2.2.2.2.1) (hT : ∀ k : Int, 0 ≤ k → k ≤ 201 → 0 ≤ s.2.1 k ∧ s.2.1 k ≤ 200) (hL : ∀ j : Int, 0 ≤ j → j < 200 → 0 ≤ s.1 j ∧ s.1 j < 65536) : zMet q_X3_isInnerBreak 3 0 0 [zR 0, zI k] (wLy s y) (zD (some (zI (inB s y k))) (wLy s y)) := by
  refine z_introF (ls := [(0, _), (1, _)]) (by decide +kernel) rfl (fun _ _ => rfl) (fun _ _ => Nat.le_of_ble_eq_true rfl) ?_
  have g0 := ltr_b hT hL y.2.2.1 (k - 1) hl
  have g1 : isLt s y.2.2.1 k = 0 ∨ isLt s y.2.2.1 k = 1 := by unfold isLt; split <;> omega
  refine wa_iload_n (pc' := 1) dX3_isInnerBreak_0 rfl rfl rfl ?_
  refine wa_aload_n (pc' := 2) dX3_isInnerBreak_1 rfl rfl rfl ?_
  refine wa_getfield (pc' := 5) (j := 5) zc_X3 lk_X3_65 dX3_isInnerBreak_2 rfl (by decide) rfl rfl ?_
  refine wa_icmp_le (tgt := 39) (pc' := 8) dX3_isInnerBreak_5 (by decide) rfl (by omega) (by omega) (fun c5 => ?_) (fun c5 => ?_)
  · refine wa_iconst (pc' := 40) dX3_isInnerBreak_39 rfl ?_
    refine wa_zret dX3_isInnerBreak_40 rfl (by decide) (by decide) (by omega) ?_
    exact zD_i (by unfold inB; first | rw [if_pos (by omega)] | rw [if_neg (by omega)]) rfl
  · refine wa_aload_n (pc' := 9) dX3_isInnerBreak_8 rfl rfl rfl ?_
    refine wa_iload_n (pc' := 10) dX3_isInnerBreak_9 rfl rfl rfl ?_
    refine wa_rV (pc' := 13) (k_X3_isLetter s y k (by omega) (by omega) hT hL) ok_X3_isLetter lm_X3_94 dX3_isInnerBreak_10 rfl [0, 1, 2, 3, 4, 5, 6, 7, 8] rfl (by decide) rfl rfl rfl rfl rfl (by decide) (Nat.le_of_ble_eq_true rfl) rfl (by decide) (by decide) rfl ?_
    show Wa _ _ _ _ _ _ _ _ [zI (isLt s y.2.2.1 k)] _ _ _
    refine wa_if_eq (tgt := 39) (pc' := 16) dX3_isInnerBreak_13 (by decide) rfl (by omega) (fun c13 => ?_) (fun c13 => ?_)
    · refine wa_iconst (pc' := 40) dX3_isInnerBreak_39 rfl ?_
      refine wa_zret dX3_isInnerBreak_40 rfl (by decide) (by decide) (by omega) ?_
      exact zD_i (by unfold inB; first | rw [if_pos (by omega)] | rw [if_neg (by omega)]) rfl
    · refine wa_aload_n (pc' := 17) dX3_isInnerBreak_16 rfl rfl rfl ?_
      refine wa_getfield (pc' := 20) (j := 0) zc_X3 lk_X3_21 dX3_isInnerBreak_17 rfl (by decide) rfl rfl ?_
      refine wa_aload_n (pc' := 21) dX3_isInnerBreak_20 rfl rfl rfl ?_
      refine wa_getfield (pc' := 24) (j := 3) zc_X3 lk_X3_39 dX3_isInnerBreak_21 rfl (by decide) rfl rfl ?_
      refine wa_iload_n (pc' := 25) dX3_isInnerBreak_24 rfl rfl rfl ?_
      refine wa_iconst (pc' := 26) dX3_isInnerBreak_25 rfl ?_
      refine wa_isub (pc' := 27) dX3_isInnerBreak_26 rfl ?_
      refine wa_rV (pc' := 30) (k_X8_letterAt s.1 s.2.1 s.2.2.1 s.2.2.2.1 s.2.2.2.2.1 s.2.2.2.2.2.1 s.2.2.2.2.2.2 y.2.2.1 (k - 1) (by omega) (by omega) hT) ok_X8_letterAt lm_X3_84 dX3_isInnerBreak_27 rfl [1, 2, 3, 4] rfl (by decide) rfl rfl rfl rfl rfl (by decide) (Nat.le_of_ble_eq_true rfl) rfl (by decide) (by decide) rfl ?_
      show Wa _ _ _ _ _ _ _ _ [zI (ltr s.1 s.2.1 y.2.2.1 (k - 1))] _ _ _
      refine wa_bipush (pc' := 32) dX3_isInnerBreak_30 rfl rfl ?_
      refine wa_icmp_ne (tgt := 39) (pc' := 35) dX3_isInnerBreak_32 (by decide) rfl (by omega) (by omega) (fun c32 => ?_) (fun c32 => ?_)
      · refine wa_iconst (pc' := 40) dX3_isInnerBreak_39 rfl ?_
        refine wa_zret dX3_isInnerBreak_40 rfl (by decide) (by decide) (by omega) ?_
        exact zD_i (by unfold inB; first | rw [if_pos (by omega)] | rw [if_neg (by omega)]) rfl
      · refine wa_iconst (pc' := 36) dX3_isInnerBreak_35 rfl ?_
        refine wa_goto (pc' := 40) dX3_isInnerBreak_36 (by decide) ?_
        refine wa_zret dX3_isInnerBreak_40 rfl (by decide) (by decide) (by omega) ?_
        exact zD_i (by unfold inB; first | rw [if_pos (by omega)] | rw [if_neg (by omega)]) rfl

set_option maxRecDepth 10000 in
set_option maxHeartbeats 1000000 in
theorem k_X3_offerEnd (s : zSh) (y : zLy) (k : Int) (hw : zin y.2.2.2.1) (ha : zin y.1.1) (hb : zin y.2.1.1) (he : zin y.2.2.2.2.2.2.1) : zMet q_X3_offerEnd 1 0 0 [zR 0, zI k] (wLy s y) (zD (some (zI (offF y))) (wLy s (offE y k))) := by
  refine z_introF (ls := [(0, _), (1, _)]) (by decide +kernel) rfl (fun _ _ => rfl) (fun _ _ => Nat.le_of_ble_eq_true rfl) ?_
  refine wa_aload_n (pc' := 1) dX3_offerEnd_0 rfl rfl rfl ?_
  refine wa_getfield (pc' := 4) (j := 1) zc_X3 lk_X3_12 dX3_offerEnd_1 rfl (by decide) rfl rfl ?_
  refine wa_rV (pc' := 7) (k_X7_size y.1) ok_X7_size lm_X3_97 dX3_offerEnd_4 rfl [5, 6] rfl (by decide) rfl rfl rfl rfl rfl (by decide) (Nat.le_of_ble_eq_true rfl) rfl (by decide) (by decide) rfl ?_
  refine wa_aload_n (pc' := 8) dX3_offerEnd_7 rfl rfl rfl ?_
  refine wa_getfield (pc' := 11) (j := 4) zc_X3 lk_X3_43 dX3_offerEnd_8 rfl (by decide) rfl rfl ?_
  refine wa_icmp_gt (tgt := 32) (pc' := 14) dX3_offerEnd_11 (by decide) rfl (by omega) (by omega) (fun c11 => ?_) (fun c11 => ?_)
  · refine wa_iconst (pc' := 33) dX3_offerEnd_32 rfl ?_
    refine wa_istore_n (pc' := 34) (ls' := [(2, _), (0, _), (1, _)]) dX3_offerEnd_33 rfl rfl (by decide) rfl ?_
    refine wa_iload_n (pc' := 35) dX3_offerEnd_34 rfl rfl rfl ?_
    refine wa_if_ne (tgt := 46) (pc' := 38) dX3_offerEnd_35 (by decide) rfl (by omega) (fun c35 => ?_) (fun c35 => ?_)
    · refine wa_aload_n (pc' := 47) dX3_offerEnd_46 rfl rfl rfl ?_
      refine wa_iload_n (pc' := 48) dX3_offerEnd_47 rfl rfl rfl ?_
      refine wa_putfield (pc' := 51) (j := 7) (w' := [zO _ [_, _, _, _, _, _, _, _, _, _, _], _, _, _, _, _, _, _, _]) zc_X3 lk_X3_46 dX3_offerEnd_48 rfl (by decide) rfl rfl (Nat.le_of_ble_eq_true rfl) True.intro rfl ?_
      refine wa_aload_n (pc' := 52) dX3_offerEnd_51 rfl rfl rfl ?_
      refine wa_aload_n (pc' := 53) dX3_offerEnd_52 rfl rfl rfl ?_
      refine wa_getfield (pc' := 56) (j := 6) zc_X3 lk_X3_68 dX3_offerEnd_53 rfl (by decide) rfl rfl ?_
      refine wa_putfield (pc' := 59) (j := 8) (w' := [zO _ [_, _, _, _, _, _, _, _, _, _, _], _, _, _, _, _, _, _, _]) zc_X3 lk_X3_53 dX3_offerEnd_56 rfl (by decide) rfl rfl (Nat.le_of_ble_eq_true rfl) True.intro rfl ?_
      refine wa_aload_n (pc' := 60) dX3_offerEnd_59 rfl rfl rfl ?_
      refine wa_aload_n (pc' := 61) dX3_offerEnd_60 rfl rfl rfl ?_
      refine wa_getfield (pc' := 64) (j := 1) zc_X3 lk_X3_12 dX3_offerEnd_61 rfl (by decide) rfl rfl ?_
      refine wa_rV (pc' := 67) (k_X7_size y.1) ok_X7_size lm_X3_97 dX3_offerEnd_64 rfl [5, 6] rfl (by decide) rfl rfl rfl rfl rfl (by decide) (Nat.le_of_ble_eq_true rfl) rfl (by decide) (by decide) rfl ?_
      refine wa_putfield (pc' := 70) (j := 9) (w' := [zO _ [_, _, _, _, _, _, _, _, _, _, _], _, _, _, _, _, _, _, _]) zc_X3 lk_X3_101 dX3_offerEnd_67 rfl (by decide) rfl rfl (Nat.le_of_ble_eq_true rfl) True.intro rfl ?_
      refine wa_aload_n (pc' := 71) dX3_offerEnd_70 rfl rfl rfl ?_
      refine wa_aload_n (pc' := 72) dX3_offerEnd_71 rfl rfl rfl ?_
      refine wa_getfield (pc' := 75) (j := 2) zc_X3 lk_X3_18 dX3_offerEnd_72 rfl (by decide) rfl rfl ?_
      refine wa_rV (pc' := 78) (k_X7_size y.2.1) ok_X7_size lm_X3_97 dX3_offerEnd_75 rfl [7, 8] rfl (by decide) rfl rfl rfl rfl rfl (by decide) (Nat.le_of_ble_eq_true rfl) rfl (by decide) (by decide) rfl ?_
      refine wa_putfield (pc' := 81) (j := 10) (w' := [zO _ [_, _, _, _, _, _, _, _, _, _, _], _, _, _, _, _, _, _, _]) zc_X3 lk_X3_104 dX3_offerEnd_78 rfl (by decide) rfl rfl (Nat.le_of_ble_eq_true rfl) True.intro rfl ?_
      refine wa_iload_n (pc' := 82) dX3_offerEnd_81 rfl rfl rfl ?_
      refine wa_zret dX3_offerEnd_82 rfl (by decide) (by decide) (by omega) ?_
      have hf1 : y.1.1 ≤ y.2.2.2.1 ∧ y.2.1.1 ≤ y.2.2.2.1 → offF y = 1 := fun h => if_pos h
      have hf0 : ¬ (y.1.1 ≤ y.2.2.2.1 ∧ y.2.1.1 ≤ y.2.2.2.1) → offF y = 0 := fun h => if_neg h
      first | exact absurd c35 (by decide) | exact absurd rfl c35 | exact zD_i (by rw [hf1 (by omega)] <;> rfl) (by rw [offE, if_pos (Or.inl (hf1 (by omega)))] <;> rfl) | exact zD_i (by rw [hf0 (by omega)] <;> rfl) (by rw [offE, if_pos (Or.inr (by omega))] <;> rfl) | exact zD_i (by rw [hf0 (by omega)] <;> rfl) (by rw [offE, if_neg (by rw [hf0 (by omega)]; omega)] <;> rfl)
    · refine wa_aload_n (pc' := 39) dX3_offerEnd_38 rfl rfl rfl ?_
      refine wa_getfield (pc' := 42) (j := 7) zc_X3 lk_X3_46 dX3_offerEnd_39 rfl (by decide) rfl rfl ?_
      refine wa_iconst (pc' := 43) dX3_offerEnd_42 rfl ?_
      refine wa_icmp_ne (tgt := 81) (pc' := 46) dX3_offerEnd_43 (by decide) rfl (by omega) (by omega) (fun c43 => ?_) (fun c43 => ?_)
      · refine wa_iload_n (pc' := 82) dX3_offerEnd_81 rfl rfl rfl ?_
        refine wa_zret dX3_offerEnd_82 rfl (by decide) (by decide) (by omega) ?_
        have hf1 : y.1.1 ≤ y.2.2.2.1 ∧ y.2.1.1 ≤ y.2.2.2.1 → offF y = 1 := fun h => if_pos h
        have hf0 : ¬ (y.1.1 ≤ y.2.2.2.1 ∧ y.2.1.1 ≤ y.2.2.2.1) → offF y = 0 := fun h => if_neg h
        first | exact absurd c35 (by decide) | exact absurd rfl c35 | exact zD_i (by rw [hf1 (by omega)] <;> rfl) (by rw [offE, if_pos (Or.inl (hf1 (by omega)))] <;> rfl) | exact zD_i (by rw [hf0 (by omega)] <;> rfl) (by rw [offE, if_pos (Or.inr (by omega))] <;> rfl) | exact zD_i (by rw [hf0 (by omega)] <;> rfl) (by rw [offE, if_neg (by rw [hf0 (by omega)]; omega)] <;> rfl)
      · refine wa_aload_n (pc' := 47) dX3_offerEnd_46 rfl rfl rfl ?_
        refine wa_iload_n (pc' := 48) dX3_offerEnd_47 rfl rfl rfl ?_
        refine wa_putfield (pc' := 51) (j := 7) (w' := [zO _ [_, _, _, _, _, _, _, _, _, _, _], _, _, _, _, _, _, _, _]) zc_X3 lk_X3_46 dX3_offerEnd_48 rfl (by decide) rfl rfl (Nat.le_of_ble_eq_true rfl) True.intro rfl ?_
        refine wa_aload_n (pc' := 52) dX3_offerEnd_51 rfl rfl rfl ?_
        refine wa_aload_n (pc' := 53) dX3_offerEnd_52 rfl rfl rfl ?_
        refine wa_getfield (pc' := 56) (j := 6) zc_X3 lk_X3_68 dX3_offerEnd_53 rfl (by decide) rfl rfl ?_
        refine wa_putfield (pc' := 59) (j := 8) (w' := [zO _ [_, _, _, _, _, _, _, _, _, _, _], _, _, _, _, _, _, _, _]) zc_X3 lk_X3_53 dX3_offerEnd_56 rfl (by decide) rfl rfl (Nat.le_of_ble_eq_true rfl) True.intro rfl ?_
        refine wa_aload_n (pc' := 60) dX3_offerEnd_59 rfl rfl rfl ?_
        refine wa_aload_n (pc' := 61) dX3_offerEnd_60 rfl rfl rfl ?_
        refine wa_getfield (pc' := 64) (j := 1) zc_X3 lk_X3_12 dX3_offerEnd_61 rfl (by decide) rfl rfl ?_
        refine wa_rV (pc' := 67) (k_X7_size y.1) ok_X7_size lm_X3_97 dX3_offerEnd_64 rfl [5, 6] rfl (by decide) rfl rfl rfl rfl rfl (by decide) (Nat.le_of_ble_eq_true rfl) rfl (by decide) (by decide) rfl ?_
        refine wa_putfield (pc' := 70) (j := 9) (w' := [zO _ [_, _, _, _, _, _, _, _, _, _, _], _, _, _, _, _, _, _, _]) zc_X3 lk_X3_101 dX3_offerEnd_67 rfl (by decide) rfl rfl (Nat.le_of_ble_eq_true rfl) True.intro rfl ?_
        refine wa_aload_n (pc' := 71) dX3_offerEnd_70 rfl rfl rfl ?_
        refine wa_aload_n (pc' := 72) dX3_offerEnd_71 rfl rfl rfl ?_
        refine wa_getfield (pc' := 75) (j := 2) zc_X3 lk_X3_18 dX3_offerEnd_72 rfl (by decide) rfl rfl ?_
        refine wa_rV (pc' := 78) (k_X7_size y.2.1) ok_X7_size lm_X3_97 dX3_offerEnd_75 rfl [7, 8] rfl (by decide) rfl rfl rfl rfl rfl (by decide) (Nat.le_of_ble_eq_true rfl) rfl (by decide) (by decide) rfl ?_
        refine wa_putfield (pc' := 81) (j := 10) (w' := [zO _ [_, _, _, _, _, _, _, _, _, _, _], _, _, _, _, _, _, _, _]) zc_X3 lk_X3_104 dX3_offerEnd_78 rfl (by decide) rfl rfl (Nat.le_of_ble_eq_true rfl) True.intro rfl ?_
        refine wa_iload_n (pc' := 82) dX3_offerEnd_81 rfl rfl rfl ?_
        refine wa_zret dX3_offerEnd_82 rfl (by decide) (by decide) (by omega) ?_
        have hf1 : y.1.1 ≤ y.2.2.2.1 ∧ y.2.1.1 ≤ y.2.2.2.1 → offF y = 1 := fun h => if_pos h
        have hf0 : ¬ (y.1.1 ≤ y.2.2.2.1 ∧ y.2.1.1 ≤ y.2.2.2.1) → offF y = 0 := fun h => if_neg h
        first | exact absurd c35 (by decide) | exact absurd rfl c35 | exact zD_i (by rw [hf1 (by omega)] <;> rfl) (by rw [offE, if_pos (Or.inl (hf1 (by omega)))] <;> rfl) | exact zD_i (by rw [hf0 (by omega)] <;> rfl) (by rw [offE, if_pos (Or.inr (by omega))] <;> rfl) | exact zD_i (by rw [hf0 (by omega)] <;> rfl) (by rw [offE, if_neg (by rw [hf0 (by omega)]; omega)] <;> rfl)
  · refine wa_aload_n (pc' := 15) dX3_offerEnd_14 rfl rfl rfl ?_
    refine wa_getfield (pc' := 18) (j := 2) zc_X3 lk_X3_18 dX3_offerEnd_15 rfl (by decide) rfl rfl ?_
    refine wa_rV (pc' := 21) (k_X7_size y.2.1) ok_X7_size lm_X3_97 dX3_offerEnd_18 rfl [7, 8] rfl (by decide) rfl rfl rfl rfl rfl (by decide) (Nat.le_of_ble_eq_true rfl) rfl (by decide) (by decide) rfl ?_
    refine wa_aload_n (pc' := 22) dX3_offerEnd_21 rfl rfl rfl ?_
    refine wa_getfield (pc' := 25) (j := 4) zc_X3 lk_X3_43 dX3_offerEnd_22 rfl (by decide) rfl rfl ?_
    refine wa_icmp_gt (tgt := 32) (pc' := 28) dX3_offerEnd_25 (by decide) rfl (by omega) (by omega) (fun c25 => ?_) (fun c25 => ?_)
    · refine wa_iconst (pc' := 33) dX3_offerEnd_32 rfl ?_
      refine wa_istore_n (pc' := 34) (ls' := [(2, _), (0, _), (1, _)]) dX3_offerEnd_33 rfl rfl (by decide) rfl ?_
      refine wa_iload_n (pc' := 35) dX3_offerEnd_34 rfl rfl rfl ?_
      refine wa_if_ne (tgt := 46) (pc' := 38) dX3_offerEnd_35 (by decide) rfl (by omega) (fun c35 => ?_) (fun c35 => ?_)
      · refine wa_aload_n (pc' := 47) dX3_offerEnd_46 rfl rfl rfl ?_
        refine wa_iload_n (pc' := 48) dX3_offerEnd_47 rfl rfl rfl ?_
        refine wa_putfield (pc' := 51) (j := 7) (w' := [zO _ [_, _, _, _, _, _, _, _, _, _, _], _, _, _, _, _, _, _, _]) zc_X3 lk_X3_46 dX3_offerEnd_48 rfl (by decide) rfl rfl (Nat.le_of_ble_eq_true rfl) True.intro rfl ?_
        refine wa_aload_n (pc' := 52) dX3_offerEnd_51 rfl rfl rfl ?_
        refine wa_aload_n (pc' := 53) dX3_offerEnd_52 rfl rfl rfl ?_
        refine wa_getfield (pc' := 56) (j := 6) zc_X3 lk_X3_68 dX3_offerEnd_53 rfl (by decide) rfl rfl ?_
        refine wa_putfield (pc' := 59) (j := 8) (w' := [zO _ [_, _, _, _, _, _, _, _, _, _, _], _, _, _, _, _, _, _, _]) zc_X3 lk_X3_53 dX3_offerEnd_56 rfl (by decide) rfl rfl (Nat.le_of_ble_eq_true rfl) True.intro rfl ?_
        refine wa_aload_n (pc' := 60) dX3_offerEnd_59 rfl rfl rfl ?_
        refine wa_aload_n (pc' := 61) dX3_offerEnd_60 rfl rfl rfl ?_
        refine wa_getfield (pc' := 64) (j := 1) zc_X3 lk_X3_12 dX3_offerEnd_61 rfl (by decide) rfl rfl ?_
        refine wa_rV (pc' := 67) (k_X7_size y.1) ok_X7_size lm_X3_97 dX3_offerEnd_64 rfl [5, 6] rfl (by decide) rfl rfl rfl rfl rfl (by decide) (Nat.le_of_ble_eq_true rfl) rfl (by decide) (by decide) rfl ?_
        refine wa_putfield (pc' := 70) (j := 9) (w' := [zO _ [_, _, _, _, _, _, _, _, _, _, _], _, _, _, _, _, _, _, _]) zc_X3 lk_X3_101 dX3_offerEnd_67 rfl (by decide) rfl rfl (Nat.le_of_ble_eq_true rfl) True.intro rfl ?_
        refine wa_aload_n (pc' := 71) dX3_offerEnd_70 rfl rfl rfl ?_
        refine wa_aload_n (pc' := 72) dX3_offerEnd_71 rfl rfl rfl ?_
        refine wa_getfield (pc' := 75) (j := 2) zc_X3 lk_X3_18 dX3_offerEnd_72 rfl (by decide) rfl rfl ?_
        refine wa_rV (pc' := 78) (k_X7_size y.2.1) ok_X7_size lm_X3_97 dX3_offerEnd_75 rfl [7, 8] rfl (by decide) rfl rfl rfl rfl rfl (by decide) (Nat.le_of_ble_eq_true rfl) rfl (by decide) (by decide) rfl ?_
        refine wa_putfield (pc' := 81) (j := 10) (w' := [zO _ [_, _, _, _, _, _, _, _, _, _, _], _, _, _, _, _, _, _, _]) zc_X3 lk_X3_104 dX3_offerEnd_78 rfl (by decide) rfl rfl (Nat.le_of_ble_eq_true rfl) True.intro rfl ?_
        refine wa_iload_n (pc' := 82) dX3_offerEnd_81 rfl rfl rfl ?_
        refine wa_zret dX3_offerEnd_82 rfl (by decide) (by decide) (by omega) ?_
        have hf1 : y.1.1 ≤ y.2.2.2.1 ∧ y.2.1.1 ≤ y.2.2.2.1 → offF y = 1 := fun h => if_pos h
        have hf0 : ¬ (y.1.1 ≤ y.2.2.2.1 ∧ y.2.1.1 ≤ y.2.2.2.1) → offF y = 0 := fun h => if_neg h
        first | exact absurd c35 (by decide) | exact absurd rfl c35 | exact zD_i (by rw [hf1 (by omega)] <;> rfl) (by rw [offE, if_pos (Or.inl (hf1 (by omega)))] <;> rfl) | exact zD_i (by rw [hf0 (by omega)] <;> rfl) (by rw [offE, if_pos (Or.inr (by omega))] <;> rfl) | exact zD_i (by rw [hf0 (by omega)] <;> rfl) (by rw [offE, if_neg (by rw [hf0 (by omega)]; omega)] <;> rfl)
      · refine wa_aload_n (pc' := 39) dX3_offerEnd_38 rfl rfl rfl ?_
        refine wa_getfield (pc' := 42) (j := 7) zc_X3 lk_X3_46 dX3_offerEnd_39 rfl (by decide) rfl rfl ?_
        refine wa_iconst (pc' := 43) dX3_offerEnd_42 rfl ?_
        refine wa_icmp_ne (tgt := 81) (pc' := 46) dX3_offerEnd_43 (by decide) rfl (by omega) (by omega) (fun c43 => ?_) (fun c43 => ?_)
        · refine wa_iload_n (pc' := 82) dX3_offerEnd_81 rfl rfl rfl ?_
          refine wa_zret dX3_offerEnd_82 rfl (by decide) (by decide) (by omega) ?_
          have hf1 : y.1.1 ≤ y.2.2.2.1 ∧ y.2.1.1 ≤ y.2.2.2.1 → offF y = 1 := fun h => if_pos h
          have hf0 : ¬ (y.1.1 ≤ y.2.2.2.1 ∧ y.2.1.1 ≤ y.2.2.2.1) → offF y = 0 := fun h => if_neg h
          first | exact absurd c35 (by decide) | exact absurd rfl c35 | exact zD_i (by rw [hf1 (by omega)] <;> rfl) (by rw [offE, if_pos (Or.inl (hf1 (by omega)))] <;> rfl) | exact zD_i (by rw [hf0 (by omega)] <;> rfl) (by rw [offE, if_pos (Or.inr (by omega))] <;> rfl) | exact zD_i (by rw [hf0 (by omega)] <;> rfl) (by rw [offE, if_neg (by rw [hf0 (by omega)]; omega)] <;> rfl)
        · refine wa_aload_n (pc' := 47) dX3_offerEnd_46 rfl rfl rfl ?_
          refine wa_iload_n (pc' := 48) dX3_offerEnd_47 rfl rfl rfl ?_
          refine wa_putfield (pc' := 51) (j := 7) (w' := [zO _ [_, _, _, _, _, _, _, _, _, _, _], _, _, _, _, _, _, _, _]) zc_X3 lk_X3_46 dX3_offerEnd_48 rfl (by decide) rfl rfl (Nat.le_of_ble_eq_true rfl) True.intro rfl ?_
          refine wa_aload_n (pc' := 52) dX3_offerEnd_51 rfl rfl rfl ?_
          refine wa_aload_n (pc' := 53) dX3_offerEnd_52 rfl rfl rfl ?_
          refine wa_getfield (pc' := 56) (j := 6) zc_X3 lk_X3_68 dX3_offerEnd_53 rfl (by decide) rfl rfl ?_
          refine wa_putfield (pc' := 59) (j := 8) (w' := [zO _ [_, _, _, _, _, _, _, _, _, _, _], _, _, _, _, _, _, _, _]) zc_X3 lk_X3_53 dX3_offerEnd_56 rfl (by decide) rfl rfl (Nat.le_of_ble_eq_true rfl) True.intro rfl ?_
          refine wa_aload_n (pc' := 60) dX3_offerEnd_59 rfl rfl rfl ?_
          refine wa_aload_n (pc' := 61) dX3_offerEnd_60 rfl rfl rfl ?_
          refine wa_getfield (pc' := 64) (j := 1) zc_X3 lk_X3_12 dX3_offerEnd_61 rfl (by decide) rfl rfl ?_
          refine wa_rV (pc' := 67) (k_X7_size y.1) ok_X7_size lm_X3_97 dX3_offerEnd_64 rfl [5, 6] rfl (by decide) rfl rfl rfl rfl rfl (by decide) (Nat.le_of_ble_eq_true rfl) rfl (by decide) (by decide) rfl ?_
          refine wa_putfield (pc' := 70) (j := 9) (w' := [zO _ [_, _, _, _, _, _, _, _, _, _, _], _, _, _, _, _, _, _, _]) zc_X3 lk_X3_101 dX3_offerEnd_67 rfl (by decide) rfl rfl (Nat.le_of_ble_eq_true rfl) True.intro rfl ?_
          refine wa_aload_n (pc' := 71) dX3_offerEnd_70 rfl rfl rfl ?_
          refine wa_aload_n (pc' := 72) dX3_offerEnd_71 rfl rfl rfl ?_
          refine wa_getfield (pc' := 75) (j := 2) zc_X3 lk_X3_18 dX3_offerEnd_72 rfl (by decide) rfl rfl ?_
          refine wa_rV (pc' := 78) (k_X7_size y.2.1) ok_X7_size lm_X3_97 dX3_offerEnd_75 rfl [7, 8] rfl (by decide) rfl rfl rfl rfl rfl (by decide) (Nat.le_of_ble_eq_true rfl) rfl (by decide) (by decide) rfl ?_
          refine wa_putfield (pc' := 81) (j := 10) (w' := [zO _ [_, _, _, _, _, _, _, _, _, _, _], _, _, _, _, _, _, _, _]) zc_X3 lk_X3_104 dX3_offerEnd_78 rfl (by decide) rfl rfl (Nat.le_of_ble_eq_true rfl) True.intro rfl ?_
          refine wa_iload_n (pc' := 82) dX3_offerEnd_81 rfl rfl rfl ?_
          refine wa_zret dX3_offerEnd_82 rfl (by decide) (by decide) (by omega) ?_
          have hf1 : y.1.1 ≤ y.2.2.2.1 ∧ y.2.1.1 ≤ y.2.2.2.1 → offF y = 1 := fun h => if_pos h
          have hf0 : ¬ (y.1.1 ≤ y.2.2.2.1 ∧ y.2.1.1 ≤ y.2.2.2.1) → offF y = 0 := fun h => if_neg h
          first | exact absurd c35 (by decide) | exact absurd rfl c35 | exact zD_i (by rw [hf1 (by omega)] <;> rfl) (by rw [offE, if_pos (Or.inl (hf1 (by omega)))] <;> rfl) | exact zD_i (by rw [hf0 (by omega)] <;> rfl) (by rw [offE, if_pos (Or.inr (by omega))] <;> rfl) | exact zD_i (by rw [hf0 (by omega)] <;> rfl) (by rw [offE, if_neg (by rw [hf0 (by omega)]; omega)] <;> rfl)
    · refine wa_iconst (pc' := 29) dX3_offerEnd_28 rfl ?_
      refine wa_goto (pc' := 33) dX3_offerEnd_29 (by decide) ?_
      refine wa_istore_n (pc' := 34) (ls' := [(2, _), (0, _), (1, _)]) dX3_offerEnd_33 rfl rfl (by decide) rfl ?_
      refine wa_iload_n (pc' := 35) dX3_offerEnd_34 rfl rfl rfl ?_
      refine wa_if_ne (tgt := 46) (pc' := 38) dX3_offerEnd_35 (by decide) rfl (by omega) (fun c35 => ?_) (fun c35 => ?_)
      · refine wa_aload_n (pc' := 47) dX3_offerEnd_46 rfl rfl rfl ?_
        refine wa_iload_n (pc' := 48) dX3_offerEnd_47 rfl rfl rfl ?_
        refine wa_putfield (pc' := 51) (j := 7) (w' := [zO _ [_, _, _, _, _, _, _, _, _, _, _], _, _, _, _, _, _, _, _]) zc_X3 lk_X3_46 dX3_offerEnd_48 rfl (by decide) rfl rfl (Nat.le_of_ble_eq_true rfl) True.intro rfl ?_
        refine wa_aload_n (pc' := 52) dX3_offerEnd_51 rfl rfl rfl ?_
        refine wa_aload_n (pc' := 53) dX3_offerEnd_52 rfl rfl rfl ?_
        refine wa_getfield (pc' := 56) (j := 6) zc_X3 lk_X3_68 dX3_offerEnd_53 rfl (by decide) rfl rfl ?_
        refine wa_putfield (pc' := 59) (j := 8) (w' := [zO _ [_, _, _, _, _, _, _, _, _, _, _], _, _, _, _, _, _, _, _]) zc_X3 lk_X3_53 dX3_offerEnd_56 rfl (by decide) rfl rfl (Nat.le_of_ble_eq_true rfl) True.intro rfl ?_
        refine wa_aload_n (pc' := 60) dX3_offerEnd_59 rfl rfl rfl ?_
        refine wa_aload_n (pc' := 61) dX3_offerEnd_60 rfl rfl rfl ?_
        refine wa_getfield (pc' := 64) (j := 1) zc_X3 lk_X3_12 dX3_offerEnd_61 rfl (by decide) rfl rfl ?_
        refine wa_rV (pc' := 67) (k_X7_size y.1) ok_X7_size lm_X3_97 dX3_offerEnd_64 rfl [5, 6] rfl (by decide) rfl rfl rfl rfl rfl (by decide) (Nat.le_of_ble_eq_true rfl) rfl (by decide) (by decide) rfl ?_
        refine wa_putfield (pc' := 70) (j := 9) (w' := [zO _ [_, _, _, _, _, _, _, _, _, _, _], _, _, _, _, _, _, _, _]) zc_X3 lk_X3_101 dX3_offerEnd_67 rfl (by decide) rfl rfl (Nat.le_of_ble_eq_true rfl) True.intro rfl ?_
        refine wa_aload_n (pc' := 71) dX3_offerEnd_70 rfl rfl rfl ?_
        refine wa_aload_n (pc' := 72) dX3_offerEnd_71 rfl rfl rfl ?_
        refine wa_getfield (pc' := 75) (j := 2) zc_X3 lk_X3_18 dX3_offerEnd_72 rfl (by decide) rfl rfl ?_
        refine wa_rV (pc' := 78) (k_X7_size y.2.1) ok_X7_size lm_X3_97 dX3_offerEnd_75 rfl [7, 8] rfl (by decide) rfl rfl rfl rfl rfl (by decide) (Nat.le_of_ble_eq_true rfl) rfl (by decide) (by decide) rfl ?_
        refine wa_putfield (pc' := 81) (j := 10) (w' := [zO _ [_, _, _, _, _, _, _, _, _, _, _], _, _, _, _, _, _, _, _]) zc_X3 lk_X3_104 dX3_offerEnd_78 rfl (by decide) rfl rfl (Nat.le_of_ble_eq_true rfl) True.intro rfl ?_
        refine wa_iload_n (pc' := 82) dX3_offerEnd_81 rfl rfl rfl ?_
        refine wa_zret dX3_offerEnd_82 rfl (by decide) (by decide) (by omega) ?_
        have hf1 : y.1.1 ≤ y.2.2.2.1 ∧ y.2.1.1 ≤ y.2.2.2.1 → offF y = 1 := fun h => if_pos h
        have hf0 : ¬ (y.1.1 ≤ y.2.2.2.1 ∧ y.2.1.1 ≤ y.2.2.2.1) → offF y = 0 := fun h => if_neg h
        first | exact absurd c35 (by decide) | exact absurd rfl c35 | exact zD_i (by rw [hf1 (by omega)] <;> rfl) (by rw [offE, if_pos (Or.inl (hf1 (by omega)))] <;> rfl) | exact zD_i (by rw [hf0 (by omega)] <;> rfl) (by rw [offE, if_pos (Or.inr (by omega))] <;> rfl) | exact zD_i (by rw [hf0 (by omega)] <;> rfl) (by rw [offE, if_neg (by rw [hf0 (by omega)]; omega)] <;> rfl)
      · refine wa_aload_n (pc' := 39) dX3_offerEnd_38 rfl rfl rfl ?_
        refine wa_getfield (pc' := 42) (j := 7) zc_X3 lk_X3_46 dX3_offerEnd_39 rfl (by decide) rfl rfl ?_
        refine wa_iconst (pc' := 43) dX3_offerEnd_42 rfl ?_
        refine wa_icmp_ne (tgt := 81) (pc' := 46) dX3_offerEnd_43 (by decide) rfl (by omega) (by omega) (fun c43 => ?_) (fun c43 => ?_)
        · refine wa_iload_n (pc' := 82) dX3_offerEnd_81 rfl rfl rfl ?_
          refine wa_zret dX3_offerEnd_82 rfl (by decide) (by decide) (by omega) ?_
          have hf1 : y.1.1 ≤ y.2.2.2.1 ∧ y.2.1.1 ≤ y.2.2.2.1 → offF y = 1 := fun h => if_pos h
          have hf0 : ¬ (y.1.1 ≤ y.2.2.2.1 ∧ y.2.1.1 ≤ y.2.2.2.1) → offF y = 0 := fun h => if_neg h
          first | exact absurd c35 (by decide) | exact absurd rfl c35 | exact zD_i (by rw [hf1 (by omega)] <;> rfl) (by rw [offE, if_pos (Or.inl (hf1 (by omega)))] <;> rfl) | exact zD_i (by rw [hf0 (by omega)] <;> rfl) (by rw [offE, if_pos (Or.inr (by omega))] <;> rfl) | exact zD_i (by rw [hf0 (by omega)] <;> rfl) (by rw [offE, if_neg (by rw [hf0 (by omega)]; omega)] <;> rfl)
        · refine wa_aload_n (pc' := 47) dX3_offerEnd_46 rfl rfl rfl ?_
          refine wa_iload_n (pc' := 48) dX3_offerEnd_47 rfl rfl rfl ?_
          refine wa_putfield (pc' := 51) (j := 7) (w' := [zO _ [_, _, _, _, _, _, _, _, _, _, _], _, _, _, _, _, _, _, _]) zc_X3 lk_X3_46 dX3_offerEnd_48 rfl (by decide) rfl rfl (Nat.le_of_ble_eq_true rfl) True.intro rfl ?_
          refine wa_aload_n (pc' := 52) dX3_offerEnd_51 rfl rfl rfl ?_
          refine wa_aload_n (pc' := 53) dX3_offerEnd_52 rfl rfl rfl ?_
          refine wa_getfield (pc' := 56) (j := 6) zc_X3 lk_X3_68 dX3_offerEnd_53 rfl (by decide) rfl rfl ?_
          refine wa_putfield (pc' := 59) (j := 8) (w' := [zO _ [_, _, _, _, _, _, _, _, _, _, _], _, _, _, _, _, _, _, _]) zc_X3 lk_X3_53 dX3_offerEnd_56 rfl (by decide) rfl rfl (Nat.le_of_ble_eq_true rfl) True.intro rfl ?_
          refine wa_aload_n (pc' := 60) dX3_offerEnd_59 rfl rfl rfl ?_
          refine wa_aload_n (pc' := 61) dX3_offerEnd_60 rfl rfl rfl ?_
          refine wa_getfield (pc' := 64) (j := 1) zc_X3 lk_X3_12 dX3_offerEnd_61 rfl (by decide) rfl rfl ?_
          refine wa_rV (pc' := 67) (k_X7_size y.1) ok_X7_size lm_X3_97 dX3_offerEnd_64 rfl [5, 6] rfl (by decide) rfl rfl rfl rfl rfl (by decide) (Nat.le_of_ble_eq_true rfl) rfl (by decide) (by decide) rfl ?_
          refine wa_putfield (pc' := 70) (j := 9) (w' := [zO _ [_, _, _, _, _, _, _, _, _, _, _], _, _, _, _, _, _, _, _]) zc_X3 lk_X3_101 dX3_offerEnd_67 rfl (by decide) rfl rfl (Nat.le_of_ble_eq_true rfl) True.intro rfl ?_
          refine wa_aload_n (pc' := 71) dX3_offerEnd_70 rfl rfl rfl ?_
          refine wa_aload_n (pc' := 72) dX3_offerEnd_71 rfl rfl rfl ?_
          refine wa_getfield (pc' := 75) (j := 2) zc_X3 lk_X3_18 dX3_offerEnd_72 rfl (by decide) rfl rfl ?_
          refine wa_rV (pc' := 78) (k_X7_size y.2.1) ok_X7_size lm_X3_97 dX3_offerEnd_75 rfl [7, 8] rfl (by decide) rfl rfl rfl rfl rfl (by decide) (Nat.le_of_ble_eq_true rfl) rfl (by decide) (by decide) rfl ?_
          refine wa_putfield (pc' := 81) (j := 10) (w' := [zO _ [_, _, _, _, _, _, _, _, _, _, _], _, _, _, _, _, _, _, _]) zc_X3 lk_X3_104 dX3_offerEnd_78 rfl (by decide) rfl rfl (Nat.le_of_ble_eq_true rfl) True.intro rfl ?_
          refine wa_iload_n (pc' := 82) dX3_offerEnd_81 rfl rfl rfl ?_
          refine wa_zret dX3_offerEnd_82 rfl (by decide) (by decide) (by omega) ?_
          have hf1 : y.1.1 ≤ y.2.2.2.1 ∧ y.2.1.1 ≤ y.2.2.2.1 → offF y = 1 := fun h => if_pos h
          have hf0 : ¬ (y.1.1 ≤ y.2.2.2.1 ∧ y.2.1.1 ≤ y.2.2.2.1) → offF y = 0 := fun h => if_neg h
          first | exact absurd c35 (by decide) | exact absurd rfl c35 | exact zD_i (by rw [hf1 (by omega)] <;> rfl) (by rw [offE, if_pos (Or.inl (hf1 (by omega)))] <;> rfl) | exact zD_i (by rw [hf0 (by omega)] <;> rfl) (by rw [offE, if_pos (Or.inr (by omega))] <;> rfl) | exact zD_i (by rw [hf0 (by omega)] <;> rfl) (by rw [offE, if_neg (by rw [hf0 (by omega)]; omega)] <;> rfl)

set_option maxRecDepth 10000 in
set_option maxHeartbeats 1000000 in
theorem k_X3_cutBack (s : zSh) (y : zLy) (ha : 0 ≤ y.1.1 ∧ y.1.1 ≤ 680) (hb : 0 ≤ y.2.1.1 ∧ y.2.1.1 ≤ 680) (hc : zin y.2.2.2.2.2.2.2.2.1) (hd : zin y.2.2.2.2.2.2.2.2.2) : zMet q_X3_cutBack 1 0 0 [zR 0] (wLy s y) (zD none (wLy s (cutB y))) := by
  refine z_introF (ls := [(0, _)]) (by decide +kernel) rfl (fun _ _ => rfl) (fun _ _ => Nat.le_of_ble_eq_true rfl) ?_
  refine wa_aload_n (pc' := 1) dX3_cutBack_0 rfl rfl rfl ?_
  refine wa_getfield (pc' := 4) (j := 1) zc_X3 lk_X3_12 dX3_cutBack_1 rfl (by decide) rfl rfl ?_
  refine wa_aload_n (pc' := 5) dX3_cutBack_4 rfl rfl rfl ?_
  refine wa_getfield (pc' := 8) (j := 9) zc_X3 lk_X3_101 dX3_cutBack_5 rfl (by decide) rfl rfl ?_
  refine wa_dV (pc' := 11) (w' := [_, _, _, _, _, zO _ [_, _], zA _ _ _, _, _]) (k_X7_cutTo y.1 (by omega) (by omega) y.2.2.2.2.2.2.2.2.1 (by omega)) ok_X7_cutTo lm_X3_71 dX3_cutBack_8 rfl [5, 6] rfl (by decide) rfl rfl rfl rfl rfl (by decide) (Nat.le_of_ble_eq_true rfl) rfl (by decide) (by decide) rfl rfl rfl ?_
  refine wa_aload_n (pc' := 12) dX3_cutBack_11 rfl rfl rfl ?_
  refine wa_getfield (pc' := 15) (j := 2) zc_X3 lk_X3_18 dX3_cutBack_12 rfl (by decide) rfl rfl ?_
  refine wa_aload_n (pc' := 16) dX3_cutBack_15 rfl rfl rfl ?_
  refine wa_getfield (pc' := 19) (j := 10) zc_X3 lk_X3_104 dX3_cutBack_16 rfl (by decide) rfl rfl ?_
  refine wa_dV (pc' := 22) (w' := [_, _, _, _, _, _, _, zO _ [_, _], zA _ _ _]) (k_X7_cutTo y.2.1 (by omega) (by omega) y.2.2.2.2.2.2.2.2.2 (by omega)) ok_X7_cutTo lm_X3_71 dX3_cutBack_19 rfl [7, 8] rfl (by decide) rfl rfl rfl rfl rfl (by decide) (Nat.le_of_ble_eq_true rfl) rfl (by decide) (by decide) rfl rfl rfl ?_
  refine wa_vret dX3_cutBack_22 rfl (by decide) (by decide) ?_
  exact ⟨rfl, rfl⟩

set_option maxRecDepth 10000 in
set_option maxHeartbeats 1000000 in
theorem l_place (s : zSh) (k f : Int) (hk : 0 ≤ k ∧ k ≤ 200) (hf : 0 ≤ f ∧ f < 65536) (hc : s.2.2.2.2.1 ≤ 40) (hs : okN s) (hT : ∀ k : Int, 0 ≤ k → k ≤ 201 → 0 ≤ s.2.1 k ∧ s.2.1 k ≤ 200) (hF : ∀ j : Int, 0 ≤ j → j < 200 → -1000 ≤ s.2.2.1 j ∧ s.2.2.1 j ≤ 1000) (hL : ∀ j : Int, 0 ≤ j → j < 200 → 0 ≤ s.1 j ∧ s.1 j < 65536) (R : zLy) : ∀ (m : Nat) (y : zLy), okY s k y → s.2.2.2.2.1 - y.2.2.2.2.2.1 ≤ m → plC s k f m y = R → Wa q_X3_placeChords 6 0 0 9 (zD none (wLy s R)) 26 [(2, zI f), (0, zR 0), (1, zI k)] [] (wLy s y) 0 0 := by
  intro m
  induction m with
  | zero =>
    intro y hy hm hR
    obtain ⟨h1, h2, h3, h4, h5, h6, h7, h8, h9, h10⟩ := hy
    refine wa_aload_n (pc' := 27) dX3_placeChords_26 rfl rfl rfl ?_
    refine wa_getfield (pc' := 30) (j := 6) zc_X3 lk_X3_68 dX3_placeChords_27 rfl (by decide) rfl rfl ?_
    refine wa_aload_n (pc' := 31) dX3_placeChords_30 rfl rfl rfl ?_
    refine wa_getfield (pc' := 34) (j := 0) zc_X3 lk_X3_21 dX3_placeChords_31 rfl (by decide) rfl rfl ?_
    refine wa_rV (pc' := 37) (k_X8_chordCount s.1 s.2.1 s.2.2.1 s.2.2.2.1 s.2.2.2.2.1 s.2.2.2.2.2.1 s.2.2.2.2.2.2) ok_X8_chordCount lm_X3_107 dX3_placeChords_34 rfl [1, 2, 3, 4] rfl (by decide) rfl rfl rfl rfl rfl (by decide) (Nat.le_of_ble_eq_true rfl) rfl (by decide) (by decide) rfl ?_
    refine wa_icmp_ge (tgt := 130) (pc' := 40) dX3_placeChords_37 (by decide) rfl (by omega) (by omega) (fun c37 => ?_) (fun c37 => ?_)
    · refine wa_vret dX3_placeChords_130 rfl (by decide) (by decide) ?_
      exact zD_i rfl (by rw [← hR]; rfl)
    · exact absurd c37 (by omega)
  | succ m ih =>
    intro y hy hm hR
    have hyy := hy
    obtain ⟨h1, h2, h3, h4, h5, h6, h7, h8, h9, h10⟩ := hy
    have hb9 := plB_n f h2.1
    rw [plC] at hR
    refine wa_aload_n (pc' := 27) dX3_placeChords_26 rfl rfl rfl ?_
    refine wa_getfield (pc' := 30) (j := 6) zc_X3 lk_X3_68 dX3_placeChords_27 rfl (by decide) rfl rfl ?_
    refine wa_aload_n (pc' := 31) dX3_placeChords_30 rfl rfl rfl ?_
    refine wa_getfield (pc' := 34) (j := 0) zc_X3 lk_X3_21 dX3_placeChords_31 rfl (by decide) rfl rfl ?_
    refine wa_rV (pc' := 37) (k_X8_chordCount s.1 s.2.1 s.2.2.1 s.2.2.2.1 s.2.2.2.2.1 s.2.2.2.2.2.1 s.2.2.2.2.2.2) ok_X8_chordCount lm_X3_107 dX3_placeChords_34 rfl [1, 2, 3, 4] rfl (by decide) rfl rfl rfl rfl rfl (by decide) (Nat.le_of_ble_eq_true rfl) rfl (by decide) (by decide) rfl ?_
    refine wa_icmp_ge (tgt := 130) (pc' := 40) dX3_placeChords_37 (by decide) rfl (by omega) (by omega) (fun c37 => ?_) (fun c37 => ?_)
    · refine wa_vret dX3_placeChords_130 rfl (by decide) (by decide) ?_
      exact zD_i rfl (by rw [← hR, if_neg (fun h => by first | omega | exact absurd (if_pos h.2) c56)] <;> rfl)
    · obtain ⟨n1, n2, n3⟩ := hs y.2.2.2.2.2.1 h3.1 (by omega)
      have hn := nameL_n n1 n2 n3
      refine wa_aload_n (pc' := 41) dX3_placeChords_40 rfl rfl rfl ?_
      refine wa_getfield (pc' := 44) (j := 0) zc_X3 lk_X3_21 dX3_placeChords_41 rfl (by decide) rfl rfl ?_
      refine wa_aload_n (pc' := 45) dX3_placeChords_44 rfl rfl rfl ?_
      refine wa_getfield (pc' := 48) (j := 6) zc_X3 lk_X3_68 dX3_placeChords_45 rfl (by decide) rfl rfl ?_
      refine wa_aload_n (pc' := 49) dX3_placeChords_48 rfl rfl rfl ?_
      refine wa_getfield (pc' := 52) (j := 3) zc_X3 lk_X3_39 dX3_placeChords_49 rfl (by decide) rfl rfl ?_
      refine wa_iload_n (pc' := 53) dX3_placeChords_52 rfl rfl rfl ?_
      refine wa_rV (pc' := 56) (k_X8_isAt s.1 s.2.1 s.2.2.1 s.2.2.2.1 s.2.2.2.2.1 s.2.2.2.2.2.1 s.2.2.2.2.2.2 y.2.2.2.2.2.1 y.2.2.1 k (by omega) (by omega) (by omega) hF) ok_X8_isAt lm_X3_110 dX3_placeChords_53 rfl [1, 2, 3, 4] rfl (by decide) rfl rfl rfl rfl rfl (by decide) (Nat.le_of_ble_eq_true rfl) rfl (by decide) (by decide) rfl ?_
      refine wa_if_eq (tgt := 130) (pc' := 59) dX3_placeChords_56 (by decide) rfl (by split <;> omega) (fun c56 => ?_) (fun c56 => ?_)
      · refine wa_vret dX3_placeChords_130 rfl (by decide) (by decide) ?_
        exact zD_i rfl (by rw [← hR, if_neg (fun h => by first | omega | exact absurd (if_pos h.2) c56)] <;> rfl)
      · refine wa_aload_n (pc' := 60) dX3_placeChords_59 rfl rfl rfl ?_
        refine wa_getfield (pc' := 63) (j := 1) zc_X3 lk_X3_12 dX3_placeChords_60 rfl (by decide) rfl rfl ?_
        refine wa_rV (pc' := 66) (k_X7_size y.1) ok_X7_size lm_X3_97 dX3_placeChords_63 rfl [5, 6] rfl (by decide) rfl rfl rfl rfl rfl (by decide) (Nat.le_of_ble_eq_true rfl) rfl (by decide) (by decide) rfl ?_
        refine wa_if_le (tgt := 86) (pc' := 69) dX3_placeChords_66 (by decide) rfl (by omega) (fun c66 => ?_) (fun c66 => ?_)
        · have hB : plB y f = y.2.1 := if_neg (by omega)
          rw [if_neg (show ¬ 0 < y.1.1 by omega)] at hb9
          show Wa _ _ _ _ _ _ _ _ _ [_, _, _, _, _, _, _, zO 3 [zR 8, zI y.2.1.1], zA 1 680 y.2.1.2] _ _
          rw [← hB]
          refine wa_aload_n (pc' := 87) dX3_placeChords_86 rfl rfl rfl ?_
          refine wa_getfield (pc' := 90) (j := 1) zc_X3 lk_X3_12 dX3_placeChords_87 rfl (by decide) rfl rfl ?_
          refine wa_aload_n (pc' := 91) dX3_placeChords_90 rfl rfl rfl ?_
          refine wa_getfield (pc' := 94) (j := 2) zc_X3 lk_X3_18 dX3_placeChords_91 rfl (by decide) rfl rfl ?_
          refine wa_rV (pc' := 97) (k_X7_size (plB y f)) ok_X7_size lm_X3_97 dX3_placeChords_94 rfl [7, 8] rfl (by decide) rfl rfl rfl rfl rfl (by decide) (Nat.le_of_ble_eq_true rfl) rfl (by decide) (by decide) rfl ?_
          refine wa_bipush (pc' := 99) dX3_placeChords_97 rfl rfl ?_
          refine wa_dV (pc' := 102) (w' := [_, _, _, _, _, zO _ [_, _], zA _ _ _, _, _]) (k_X7_fillTo y.1 (by omega) (by omega) (plB y f).1 32 (by omega) (by omega) (by omega)) ok_X7_fillTo lm_X3_114 dX3_placeChords_99 rfl [5, 6] rfl (by decide) rfl rfl rfl rfl rfl (by decide) (Nat.le_of_ble_eq_true rfl) rfl (by decide) (by decide) rfl rfl rfl ?_
          refine wa_aload_n (pc' := 103) dX3_placeChords_102 rfl rfl rfl ?_
          refine wa_getfield (pc' := 106) (j := 0) zc_X3 lk_X3_21 dX3_placeChords_103 rfl (by decide) rfl rfl ?_
          refine wa_aload_n (pc' := 107) dX3_placeChords_106 rfl rfl rfl ?_
          refine wa_getfield (pc' := 110) (j := 6) zc_X3 lk_X3_68 dX3_placeChords_107 rfl (by decide) rfl rfl ?_
          refine wa_aload_n (pc' := 111) dX3_placeChords_110 rfl rfl rfl ?_
          refine wa_getfield (pc' := 114) (j := 1) zc_X3 lk_X3_12 dX3_placeChords_111 rfl (by decide) rfl rfl ?_
          refine wa_dV (pc' := 117) (w' := [_, zO _ [_, _, _, _, _, _, _], zA _ _ _, zA _ _ _, zA _ _ _, zO _ [_, _], zA _ _ _, _, _]) (k_X8_writeName s.1 s.2.1 s.2.2.1 s.2.2.2.1 s.2.2.2.2.1 s.2.2.2.2.2.1 s.2.2.2.2.2.2 (rL y.1 (List.replicate ((plB y f).1 - y.1.1).toNat 32)) y.2.2.2.2.2.1 (by omega) (by omega) (by omega) (by omega) (by rw [rL_rep]; omega) (by rw [rL_rep]; omega)) ok_X8_writeName lm_X3_118 dX3_placeChords_114 rfl [1, 2, 3, 4, 5, 6] rfl (by decide) rfl rfl rfl rfl rfl (by decide) (Nat.le_of_ble_eq_true rfl) rfl (by decide) (by decide) rfl rfl rfl ?_
          refine wa_aload_n (pc' := 118) dX3_placeChords_117 rfl rfl rfl ?_
          refine wa_dup (pc' := 119) dX3_placeChords_118 rfl rfl ?_
          refine wa_getfield (pc' := 122) (j := 6) zc_X3 lk_X3_68 dX3_placeChords_119 rfl (by decide) rfl rfl ?_
          refine wa_iconst (pc' := 123) dX3_placeChords_122 rfl ?_
          refine wa_iadd (pc' := 124) dX3_placeChords_123 rfl ?_
          refine wa_putfield (pc' := 127) (j := 6) (w' := [zO _ [_, _, _, _, _, _, _, _, _, _, _], _, _, _, _, _, _, _, _]) zc_X3 lk_X3_68 dX3_placeChords_124 rfl (by decide) rfl rfl (Nat.le_of_ble_eq_true rfl) True.intro rfl ?_
          refine wa_goto (pc' := 26) dX3_placeChords_127 (by decide) ?_
          by_cases h9 : s.2.2.1 (y.2.2.2.2.2.1 * 5 + 0) = y.2.2.1 ∧ s.2.2.1 (y.2.2.2.2.2.1 * 5 + 1) = k
          · rw [if_pos ⟨by omega, h9⟩] at hR
            exact ih (plO s f y) (plO_ok hyy hs (by omega)) (by show _ - (y.2.2.2.2.2.1 + 1) ≤ _; omega) hR
          · exact absurd (if_neg h9) c56
        · rw [if_pos (show 0 < y.1.1 by omega)] at hb9
          refine wa_aload_n (pc' := 70) dX3_placeChords_69 rfl rfl rfl ?_
          refine wa_getfield (pc' := 73) (j := 2) zc_X3 lk_X3_18 dX3_placeChords_70 rfl (by decide) rfl rfl ?_
          refine wa_aload_n (pc' := 74) dX3_placeChords_73 rfl rfl rfl ?_
          refine wa_getfield (pc' := 77) (j := 1) zc_X3 lk_X3_12 dX3_placeChords_74 rfl (by decide) rfl rfl ?_
          refine wa_rV (pc' := 80) (k_X7_size y.1) ok_X7_size lm_X3_97 dX3_placeChords_77 rfl [5, 6] rfl (by decide) rfl rfl rfl rfl rfl (by decide) (Nat.le_of_ble_eq_true rfl) rfl (by decide) (by decide) rfl ?_
          refine wa_iconst (pc' := 81) dX3_placeChords_80 rfl ?_
          refine wa_iadd (pc' := 82) dX3_placeChords_81 rfl ?_
          refine wa_iload_n (pc' := 83) dX3_placeChords_82 rfl rfl rfl ?_
          refine wa_dV (pc' := 86) (w' := [_, _, _, _, _, _, _, zO _ [_, _], zA _ _ _]) (k_X7_fillTo y.2.1 (by omega) (by omega) (y.1.1 + 1) f (by omega) (by omega) hf) ok_X7_fillTo lm_X3_114 dX3_placeChords_83 rfl [7, 8] rfl (by decide) rfl rfl rfl rfl rfl (by decide) (Nat.le_of_ble_eq_true rfl) rfl (by decide) (by decide) rfl rfl rfl ?_
          show Wa _ _ _ _ _ _ _ _ [] [_, _, _, _, _, _, _, zO 3 [zR 8, zI (rL y.2.1 (List.replicate (y.1.1 + 1 - y.2.1.1).toNat f)).1], zA 1 680 (rL y.2.1 (List.replicate (y.1.1 + 1 - y.2.1.1).toNat f)).2] _ _
          rw [show rL y.2.1 (List.replicate (y.1.1 + 1 - y.2.1.1).toNat f) = plB y f from (if_pos (show 0 < y.1.1 by omega)).symm]
          refine wa_aload_n (pc' := 87) dX3_placeChords_86 rfl rfl rfl ?_
          refine wa_getfield (pc' := 90) (j := 1) zc_X3 lk_X3_12 dX3_placeChords_87 rfl (by decide) rfl rfl ?_
          refine wa_aload_n (pc' := 91) dX3_placeChords_90 rfl rfl rfl ?_
          refine wa_getfield (pc' := 94) (j := 2) zc_X3 lk_X3_18 dX3_placeChords_91 rfl (by decide) rfl rfl ?_
          refine wa_rV (pc' := 97) (k_X7_size (plB y f)) ok_X7_size lm_X3_97 dX3_placeChords_94 rfl [7, 8] rfl (by decide) rfl rfl rfl rfl rfl (by decide) (Nat.le_of_ble_eq_true rfl) rfl (by decide) (by decide) rfl ?_
          refine wa_bipush (pc' := 99) dX3_placeChords_97 rfl rfl ?_
          refine wa_dV (pc' := 102) (w' := [_, _, _, _, _, zO _ [_, _], zA _ _ _, _, _]) (k_X7_fillTo y.1 (by omega) (by omega) (plB y f).1 32 (by omega) (by omega) (by omega)) ok_X7_fillTo lm_X3_114 dX3_placeChords_99 rfl [5, 6] rfl (by decide) rfl rfl rfl rfl rfl (by decide) (Nat.le_of_ble_eq_true rfl) rfl (by decide) (by decide) rfl rfl rfl ?_
          refine wa_aload_n (pc' := 103) dX3_placeChords_102 rfl rfl rfl ?_
          refine wa_getfield (pc' := 106) (j := 0) zc_X3 lk_X3_21 dX3_placeChords_103 rfl (by decide) rfl rfl ?_
          refine wa_aload_n (pc' := 107) dX3_placeChords_106 rfl rfl rfl ?_
          refine wa_getfield (pc' := 110) (j := 6) zc_X3 lk_X3_68 dX3_placeChords_107 rfl (by decide) rfl rfl ?_
          refine wa_aload_n (pc' := 111) dX3_placeChords_110 rfl rfl rfl ?_
          refine wa_getfield (pc' := 114) (j := 1) zc_X3 lk_X3_12 dX3_placeChords_111 rfl (by decide) rfl rfl ?_
          refine wa_dV (pc' := 117) (w' := [_, zO _ [_, _, _, _, _, _, _], zA _ _ _, zA _ _ _, zA _ _ _, zO _ [_, _], zA _ _ _, _, _]) (k_X8_writeName s.1 s.2.1 s.2.2.1 s.2.2.2.1 s.2.2.2.2.1 s.2.2.2.2.2.1 s.2.2.2.2.2.2 (rL y.1 (List.replicate ((plB y f).1 - y.1.1).toNat 32)) y.2.2.2.2.2.1 (by omega) (by omega) (by omega) (by omega) (by rw [rL_rep]; omega) (by rw [rL_rep]; omega)) ok_X8_writeName lm_X3_118 dX3_placeChords_114 rfl [1, 2, 3, 4, 5, 6] rfl (by decide) rfl rfl rfl rfl rfl (by decide) (Nat.le_of_ble_eq_true rfl) rfl (by decide) (by decide) rfl rfl rfl ?_
          refine wa_aload_n (pc' := 118) dX3_placeChords_117 rfl rfl rfl ?_
          refine wa_dup (pc' := 119) dX3_placeChords_118 rfl rfl ?_
          refine wa_getfield (pc' := 122) (j := 6) zc_X3 lk_X3_68 dX3_placeChords_119 rfl (by decide) rfl rfl ?_
          refine wa_iconst (pc' := 123) dX3_placeChords_122 rfl ?_
          refine wa_iadd (pc' := 124) dX3_placeChords_123 rfl ?_
          refine wa_putfield (pc' := 127) (j := 6) (w' := [zO _ [_, _, _, _, _, _, _, _, _, _, _], _, _, _, _, _, _, _, _]) zc_X3 lk_X3_68 dX3_placeChords_124 rfl (by decide) rfl rfl (Nat.le_of_ble_eq_true rfl) True.intro rfl ?_
          refine wa_goto (pc' := 26) dX3_placeChords_127 (by decide) ?_
          by_cases h9 : s.2.2.1 (y.2.2.2.2.2.1 * 5 + 0) = y.2.2.1 ∧ s.2.2.1 (y.2.2.2.2.2.1 * 5 + 1) = k
          · rw [if_pos ⟨by omega, h9⟩] at hR
            exact ih (plO s f y) (plO_ok hyy hs (by omega)) (by show _ - (y.2.2.2.2.2.1 + 1) ≤ _; omega) hR
          · exact absurd (if_neg h9) c56

set_option maxRecDepth 10000 in
set_option maxHeartbeats 1000000 in
theorem k_X3_placeChords (s : zSh) (y : zLy) (k : Int) (hk : 0 ≤ k ∧ k ≤ 200) (hy : okY s k y) (hc : s.2.2.2.2.1 ≤ 40) (hs : okN s) (hT : ∀ k : Int, 0 ≤ k → k ≤ 201 → 0 ≤ s.2.1 k ∧ s.2.1 k ≤ 200) (hF : ∀ j : Int, 0 ≤ j → j < 200 → -1000 ≤ s.2.2.1 j ∧ s.2.2.1 j ≤ 1000) (hL : ∀ j : Int, 0 ≤ j → j < 200 → 0 ≤ s.1 j ∧ s.1 j < 65536) : zMet q_X3_placeChords 6 0 0 [zR 0, zI k] (wLy s y) (zD none (wLy s (plc s y k))) := by
  refine z_introF (ls := [(0, _), (1, _)]) (by decide +kernel) rfl (fun _ _ => rfl) (fun _ _ => Nat.le_of_ble_eq_true rfl) ?_
  have hln := hy.2.2.2.2.2.2.2.2.1
  have hcc := hy.2.2.1
  have g1 : isLt s y.2.2.1 k = 0 ∨ isLt s y.2.2.1 k = 1 := by unfold isLt; split <;> omega
  have g2 : isLt s y.2.2.1 (k - 1) = 0 ∨ isLt s y.2.2.1 (k - 1) = 1 := by unfold isLt; split <;> omega
  have p1 : isLt s y.2.2.1 (k - 1) = 1 ∧ isLt s y.2.2.1 k = 1 → plcF s y k = 45 := fun h => if_pos h
  have p2 : ¬ (isLt s y.2.2.1 (k - 1) = 1 ∧ isLt s y.2.2.1 k = 1) → plcF s y k = 32 := fun h => if_neg h
  refine wa_aload_n (pc' := 1) dX3_placeChords_0 rfl rfl rfl ?_
  refine wa_iload_n (pc' := 2) dX3_placeChords_1 rfl rfl rfl ?_
  refine wa_iconst (pc' := 3) dX3_placeChords_2 rfl ?_
  refine wa_isub (pc' := 4) dX3_placeChords_3 rfl ?_
  refine wa_rV (pc' := 7) (k_X3_isLetter s y (k - 1) (by omega) (by omega) hT hL) ok_X3_isLetter lm_X3_94 dX3_placeChords_4 rfl [0, 1, 2, 3, 4, 5, 6, 7, 8] rfl (by decide) rfl rfl rfl rfl rfl (by decide) (Nat.le_of_ble_eq_true rfl) rfl (by decide) (by decide) rfl ?_
  show Wa _ _ _ _ _ _ _ _ [zI (isLt s y.2.2.1 (k - 1))] _ _ _
  refine wa_if_eq (tgt := 23) (pc' := 10) dX3_placeChords_7 (by decide) rfl (by omega) (fun c7 => ?_) (fun c7 => ?_)
  · refine wa_bipush (pc' := 25) dX3_placeChords_23 rfl rfl ?_
    refine wa_istore_n (pc' := 26) (ls' := [(2, _), (0, _), (1, _)]) dX3_placeChords_25 rfl rfl (by decide) rfl ?_
    first | exact l_place s k 45 hk (by omega) hc hs hT hF hL _ s.2.2.2.2.1.toNat y hy (by omega) (by rw [plc, p1 (by omega)]) | exact l_place s k 32 hk (by omega) hc hs hT hF hL _ s.2.2.2.2.1.toNat y hy (by omega) (by rw [plc, p2 (by omega)])
  · refine wa_aload_n (pc' := 11) dX3_placeChords_10 rfl rfl rfl ?_
    refine wa_iload_n (pc' := 12) dX3_placeChords_11 rfl rfl rfl ?_
    refine wa_rV (pc' := 15) (k_X3_isLetter s y k (by omega) (by omega) hT hL) ok_X3_isLetter lm_X3_94 dX3_placeChords_12 rfl [0, 1, 2, 3, 4, 5, 6, 7, 8] rfl (by decide) rfl rfl rfl rfl rfl (by decide) (Nat.le_of_ble_eq_true rfl) rfl (by decide) (by decide) rfl ?_
    show Wa _ _ _ _ _ _ _ _ [zI (isLt s y.2.2.1 k)] _ _ _
    refine wa_if_eq (tgt := 23) (pc' := 18) dX3_placeChords_15 (by decide) rfl (by omega) (fun c15 => ?_) (fun c15 => ?_)
    · refine wa_bipush (pc' := 25) dX3_placeChords_23 rfl rfl ?_
      refine wa_istore_n (pc' := 26) (ls' := [(2, _), (0, _), (1, _)]) dX3_placeChords_25 rfl rfl (by decide) rfl ?_
      first | exact l_place s k 45 hk (by omega) hc hs hT hF hL _ s.2.2.2.2.1.toNat y hy (by omega) (by rw [plc, p1 (by omega)]) | exact l_place s k 32 hk (by omega) hc hs hT hF hL _ s.2.2.2.2.1.toNat y hy (by omega) (by rw [plc, p2 (by omega)])
    · refine wa_bipush (pc' := 20) dX3_placeChords_18 rfl rfl ?_
      refine wa_goto (pc' := 25) dX3_placeChords_20 (by decide) ?_
      refine wa_istore_n (pc' := 26) (ls' := [(2, _), (0, _), (1, _)]) dX3_placeChords_25 rfl rfl (by decide) rfl ?_
      first | exact l_place s k 45 hk (by omega) hc hs hT hF hL _ s.2.2.2.2.1.toNat y hy (by omega) (by rw [plc, p1 (by omega)]) | exact l_place s k 32 hk (by omega) hc hs hT hF hL _ s.2.2.2.2.1.toNat y hy (by omega) (by rw [plc, p2 (by omega)])

def okP (s : zSh) (y : zLy) : Prop := (0 ≤ y.1.1 ∧ y.1.1 ≤ 680) ∧ (0 ≤ y.2.1.1 ∧ y.2.1.1 ≤ 680) ∧ (0 ≤ y.2.2.2.2.2.2.2.2.1 ∧ y.2.2.2.2.2.2.2.2.1 ≤ 680) ∧ (0 ≤ y.2.2.2.2.2.2.2.2.2 ∧ y.2.2.2.2.2.2.2.2.2 ≤ 680) ∧ (-1 ≤ y.2.2.2.2.2.2.1 ∧ y.2.2.2.2.2.2.1 ≤ 200) ∧ (0 ≤ y.2.2.2.2.2.2.2.1 ∧ y.2.2.2.2.2.2.2.1 ≤ s.2.2.2.2.1) ∧ (0 ≤ y.2.2.1 ∧ y.2.2.1 ≤ 200) ∧ zin y.2.2.2.1
theorem okY_P {s : zSh} {i : Int} {y : zLy} (h : okY s i y) (hi : i ≤ 200) (hc : s.2.2.2.2.1 ≤ 40) : okP s y := by
  obtain ⟨h1, h2, h3, h4, h5, h6, h7, h8, h9, h10⟩ := h
  exact ⟨⟨h1.1, by omega⟩, ⟨h2.1, by omega⟩, h4, h5, h6, h8, h9, h10⟩
theorem okY_le {s : zSh} {i k : Int} {y : zLy} (h : okY s i y) (hk : i ≤ k) : okY s k y := by
  obtain ⟨h1, h2, h3⟩ := h
  exact ⟨⟨h1.1, by omega⟩, ⟨h2.1, by omega⟩, h3⟩
theorem cutB_P {s : zSh} {y : zLy} (h : okP s y) : okP s (cutB y) := by
  obtain ⟨h1, h2, h3⟩ := h
  refine ⟨?_, ?_, h3⟩
  · show 0 ≤ (rC y.1 y.2.2.2.2.2.2.2.2.1).1 ∧ (rC y.1 y.2.2.2.2.2.2.2.2.1).1 ≤ 680
    unfold rC
    dsimp only
    split <;> omega
  · show 0 ≤ (rC y.2.1 y.2.2.2.2.2.2.2.2.2).1 ∧ (rC y.2.1 y.2.2.2.2.2.2.2.2.2).1 ≤ 680
    unfold rC
    dsimp only
    split <;> omega
theorem layF_P {s : zSh} {i len g : Int} {y : zLy} (h : okY s i y) (hi : i ≤ len) (hn : 0 ≤ len ∧ len ≤ 200) (hs : okN s) (hc : s.2.2.2.2.1 ≤ 40) : okP s (layF s len g y) := by
  unfold layF
  refine cutB_P ?_
  split
  · exact okY_P h (by omega) hc
  · exact okY_P (offE_ok (plc_ok hs (okY_le h hi)) (by omega) hc (by omega)) (by omega) hc
theorem layK_P {s : zSh} {len : Int} (hn : 0 ≤ len ∧ len ≤ 200) (hs : okN s) (hc : s.2.2.2.2.1 ≤ 40) : ∀ (m : Nat) (i g : Int) (y : zLy), 0 ≤ i ∧ i ≤ len → okY s i y → okP s (layK s len m i g y)
  | 0, i, g, y, hi, h => layF_P h hi.2 hn hs hc
  | m + 1, i, g, y, hi, h => by
    rw [layK]
    split
    · exact layF_P h hi.2 hn hs hc
    · split
      · exact layK_P hn hs hc m _ _ _ (by omega) (layS_ok hs h)
      · split
        · exact layK_P hn hs hc m _ _ _ (by omega) (layS_ok hs (offE_ok h (by omega) hc (by omega)))
        · exact layK_P hn hs hc m _ _ _ (by omega) (okY_le (offE_ok h (by omega) hc (by omega)) (by omega))
theorem lay0_ok {s : zSh} {y : zLy} (h : okP s y) : okY s (max y.2.2.2.2.2.2.1 0) (lay0 y) := by
  obtain ⟨h1, h2, h3, h4, h5, h6, h7, h8⟩ := h
  have ha : (rC y.1 0).1 = 0 := by unfold rC; dsimp only; split <;> omega
  have hb : (rC y.2.1 0).1 = 0 := by unfold rC; dsimp only; split <;> omega
  refine ⟨?_, ?_, h6, h3, h4, ?_, ?_, h6, h7, h8⟩
  · show 0 ≤ (rC y.1 0).1 ∧ (rC y.1 0).1 ≤ _ + 12 * y.2.2.2.2.2.2.2.1
    omega
  · show 0 ≤ (rC y.2.1 0).1 ∧ (rC y.2.1 0).1 ≤ _ + 12 * y.2.2.2.2.2.2.2.1
    omega
  · show (-1 : Int) ≤ -1 ∧ (-1 : Int) ≤ 200
    omega
  · show 0 ≤ max y.2.2.2.2.2.2.1 0 ∧ max y.2.2.2.2.2.2.1 0 ≤ 200
    omega
set_option maxRecDepth 10000 in
set_option maxHeartbeats 1000000 in
theorem l_layE (s : zSh) (len i g : Int) (R y : zLy) (h : okP s y) (hR : cutB y = R) : Wa q_X3_layNext 7 0 0 9 (zD (some (zI 1)) (wLy s R)) 151 [(2, zI g), (1, zI len), (3, zI i), (0, zR 0)] [] (wLy s y) 0 0 := by
  obtain ⟨h1, h2, h3, h4, h5, h6, h7, h8⟩ := h
  subst hR
  refine wa_aload_n (pc' := 152) dX3_layNext_151 rfl rfl rfl ?_
  refine wa_dV (pc' := 155) (w' := [zO _ [_, _, _, _, _, _, _, _, _, _, _], zO _ [_, _, _, _, _, _, _], zA _ _ _, zA _ _ _, zA _ _ _, zO _ [_, _], zA _ _ _, zO _ [_, _], zA _ _ _]) (k_X3_cutBack s y h1 h2 (by omega) (by omega)) ok_X3_cutBack lm_X3_91 dX3_layNext_152 rfl [0, 1, 2, 3, 4, 5, 6, 7, 8] rfl (by decide) rfl rfl rfl rfl rfl (by decide) (Nat.le_of_ble_eq_true rfl) rfl (by decide) (by decide) rfl rfl rfl ?_
  refine wa_iconst (pc' := 156) dX3_layNext_155 rfl ?_
  refine wa_zret dX3_layNext_156 rfl (by decide) (by decide) (by omega) ?_
  exact ⟨rfl, rfl⟩

set_option maxRecDepth 10000 in
set_option maxHeartbeats 1000000 in
theorem l_layF (s : zSh) (hc : s.2.2.2.2.1 ≤ 40) (hs : okN s) (hT : ∀ k : Int, 0 ≤ k → k ≤ 201 → 0 ≤ s.2.1 k ∧ s.2.1 k ≤ 200) (hF : ∀ j : Int, 0 ≤ j → j < 200 → -1000 ≤ s.2.2.1 j ∧ s.2.2.1 j ≤ 1000) (hL : ∀ j : Int, 0 ≤ j → j < 200 → 0 ≤ s.1 j ∧ s.1 j < 65536) (len i g : Int) (hn : 0 ≤ len ∧ len ≤ 200) (hi : i ≤ len) (hg : g = 0 ∨ g = 1) (R y : zLy) (h : okY s i y) (hR : layF s len g y = R) : Wa q_X3_layNext 7 0 0 9 (zD (some (zI 1)) (wLy s R)) 136 [(2, zI g), (1, zI len), (3, zI i), (0, zR 0)] [] (wLy s y) 0 0 := by
  have hp := plc_ok hs (okY_le h hi)
  have hpp := okY_P hp (by omega) hc
  obtain ⟨q1, q2, q3, q4, q5, q6, q7, q8⟩ := hpp
  unfold layF at hR
  refine wa_iload_n (pc' := 137) dX3_layNext_136 rfl rfl rfl ?_
  refine wa_if_eq (tgt := 151) (pc' := 140) dX3_layNext_137 (by decide) rfl (by omega) (fun c137 => ?_) (fun c137 => ?_)
  · first | exact l_layE s len i g R y (okY_P h (by omega) hc) (by rw [if_pos (by omega)] at hR; exact hR) | exact l_layE s len i g R _ (okY_P (offE_ok hp (by omega) hc (by omega)) (by omega) hc) (by rw [if_neg (by omega)] at hR; exact hR)
  · refine wa_aload_n (pc' := 141) dX3_layNext_140 rfl rfl rfl ?_
    refine wa_iload_n (pc' := 142) dX3_layNext_141 rfl rfl rfl ?_
    refine wa_dV (pc' := 145) (w' := [zO _ [_, _, _, _, _, _, _, _, _, _, _], zO _ [_, _, _, _, _, _, _], zA _ _ _, zA _ _ _, zA _ _ _, zO _ [_, _], zA _ _ _, zO _ [_, _], zA _ _ _]) (k_X3_placeChords s y len hn (okY_le h hi) hc hs hT hF hL) ok_X3_placeChords lm_X3_81 dX3_layNext_142 rfl [0, 1, 2, 3, 4, 5, 6, 7, 8] rfl (by decide) rfl rfl rfl rfl rfl (by decide) (Nat.le_of_ble_eq_true rfl) rfl (by decide) (by decide) rfl rfl rfl ?_
    show Wa _ _ _ _ _ _ _ _ [] (wLy s (plc s y len)) _ _
    refine wa_aload_n (pc' := 146) dX3_layNext_145 rfl rfl rfl ?_
    refine wa_iload_n (pc' := 147) dX3_layNext_146 rfl rfl rfl ?_
    refine wa_dV (pc' := 150) (w' := [zO _ [_, _, _, _, _, _, _, _, _, _, _], zO _ [_, _, _, _, _, _, _], zA _ _ _, zA _ _ _, zA _ _ _, zO _ [_, _], zA _ _ _, zO _ [_, _], zA _ _ _]) (k_X3_offerEnd s (plc s y len) len q8 (by omega) (by omega) (by omega)) ok_X3_offerEnd lm_X3_78 dX3_layNext_147 rfl [0, 1, 2, 3, 4, 5, 6, 7, 8] rfl (by decide) rfl rfl rfl rfl rfl (by decide) (Nat.le_of_ble_eq_true rfl) rfl (by decide) (by decide) rfl rfl rfl ?_
    show Wa _ _ _ _ _ _ _ _ [_] (wLy s (offE (plc s y len) len)) _ _
    refine wa_pop (pc' := 151) dX3_layNext_150 rfl rfl ?_
    first | exact l_layE s len i g R y (okY_P h (by omega) hc) (by rw [if_pos (by omega)] at hR; exact hR) | exact l_layE s len i g R _ (okY_P (offE_ok hp (by omega) hc (by omega)) (by omega) hc) (by rw [if_neg (by omega)] at hR; exact hR)

set_option maxRecDepth 10000 in
set_option maxHeartbeats 1000000 in
theorem l_layN (s : zSh) (hc : s.2.2.2.2.1 ≤ 40) (hs : okN s) (hT : ∀ k : Int, 0 ≤ k → k ≤ 201 → 0 ≤ s.2.1 k ∧ s.2.1 k ≤ 200) (hF : ∀ j : Int, 0 ≤ j → j < 200 → -1000 ≤ s.2.2.1 j ∧ s.2.2.1 j ≤ 1000) (hL : ∀ j : Int, 0 ≤ j → j < 200 → 0 ≤ s.1 j ∧ s.1 j < 65536) (len : Int) (R : zLy) : ∀ (m : Nat) (i g : Int) (y : zLy), 0 ≤ i ∧ i ≤ len → (g = 0 ∨ g = 1) → len - i ≤ m → okY s i y → len = s.2.1 (y.2.2.1 + 1) - s.2.1 y.2.2.1 → len ≤ 200 → layK s len m i g y = R → Wa q_X3_layNext 7 0 0 9 (zD (some (zI 1)) (wLy s R)) 70 [(2, zI g), (1, zI len), (3, zI i), (0, zR 0)] [] (wLy s y) 0 0 := by
  intro m
  induction m with
  | zero =>
    intro i g y hi hg hm h hl hn hR
    refine wa_iload_n (pc' := 71) dX3_layNext_70 rfl rfl rfl ?_
    refine wa_if_eq (tgt := 136) (pc' := 74) dX3_layNext_71 (by decide) rfl (by omega) (fun c71 => ?_) (fun c71 => ?_)
    · exact l_layF s hc hs hT hF hL len i g (by omega) (by omega) hg R y h hR
    · refine wa_iload_n (pc' := 75) dX3_layNext_74 rfl rfl rfl ?_
      refine wa_iload_n (pc' := 76) dX3_layNext_75 rfl rfl rfl ?_
      refine wa_icmp_ge (tgt := 136) (pc' := 79) dX3_layNext_76 (by decide) rfl (by omega) (by omega) (fun c76 => ?_) (fun c76 => ?_)
      · exact l_layF s hc hs hT hF hL len i g (by omega) (by omega) hg R y h hR
      · exact absurd c76 (by omega)
  | succ m ih =>
    intro i g y hi hg hm h hl hn hR
    have hln := h.2.2.2.2.2.2.2.2.1
    have hbg := h.2.2.2.2.2.2.1
    have hwd := h.2.2.2.2.2.2.2.2.2
    have gB : inB s y i = 0 ∨ inB s y i = 1 := by unfold inB; split <;> omega
    have gF : offF y = 0 ∨ offF y = 1 := by unfold offF; split <;> omega
    have hv := okY_P h (by omega) hc
    obtain ⟨v1, v2, v3, v4, v5, v6, v7, v8⟩ := hv
    have hoE := offE_ok (k := i) h (by omega) hc (by omega)
    have hlnE : (offE y i).2.2.1 = y.2.2.1 := by unfold offE; split <;> rfl
    have hcont : ∀ y9 : zLy, okY s i y9 → y9.2.2.1 = y.2.2.1 → i < len → layK s len m (i + 1) 1 (layS s y9 i) = R → Wa q_X3_layNext 7 0 0 9 (zD (some (zI 1)) (wLy s R)) 105 [(2, zI 1), (1, zI len), (3, zI i), (0, zR 0)] [] (wLy s y9) 0 0 := by
      intro y9 h9 hl9 hlt hR9
      have hp9 := plc_ok hs h9
      have hlp : (plc s y9 i).2.2.1 = y9.2.2.1 := plC_ln _ _ _ _ _
      have hlS : (layS s y9 i).2.2.1 = y.2.2.1 := hlp.trans hl9
      have hlt2 : ltr s.1 s.2.1 y9.2.2.1 i = s.1 (s.2.1 y9.2.2.1 + i) := by
        rw [hl9]
        exact if_pos (by omega)
      have t1 := hT y.2.2.1 (by omega) (by omega)
      have t2 := hT (y.2.2.1 + 1) (by omega) (by omega)
      have hlb := hL (s.2.1 y9.2.2.1 + i) (by rw [hl9]; omega) (by rw [hl9]; omega)
      rw [← hlt2] at hlb
      have hpP := okY_P hp9 (by omega) hc
      obtain ⟨q1, q2, q3, q4, q5, q6, q7, q8⟩ := hpP
      have hp9b := hp9.2.1
      have hp9c := hp9.2.2.1
      refine wa_aload_n (pc' := 106) dX3_layNext_105 rfl rfl rfl ?_
      refine wa_iload_n (pc' := 107) dX3_layNext_106 rfl rfl rfl ?_
      refine wa_dV (pc' := 110) (w' := [zO _ [_, _, _, _, _, _, _, _, _, _, _], zO _ [_, _, _, _, _, _, _], zA _ _ _, zA _ _ _, zA _ _ _, zO _ [_, _], zA _ _ _, zO _ [_, _], zA _ _ _]) (k_X3_placeChords s y9 i (by omega) h9 hc hs hT hF hL) ok_X3_placeChords lm_X3_81 dX3_layNext_107 rfl [0, 1, 2, 3, 4, 5, 6, 7, 8] rfl (by decide) rfl rfl rfl rfl rfl (by decide) (Nat.le_of_ble_eq_true rfl) rfl (by decide) (by decide) rfl rfl rfl ?_
      show Wa _ _ _ _ _ _ _ _ [] (wLy s (plc s y9 i)) _ _
      refine wa_aload_n (pc' := 111) dX3_layNext_110 rfl rfl rfl ?_
      refine wa_getfield (pc' := 114) (j := 2) zc_X3 lk_X3_18 dX3_layNext_111 rfl (by decide) rfl rfl ?_
      refine wa_aload_n (pc' := 115) dX3_layNext_114 rfl rfl rfl ?_
      refine wa_getfield (pc' := 118) (j := 0) zc_X3 lk_X3_21 dX3_layNext_115 rfl (by decide) rfl rfl ?_
      refine wa_aload_n (pc' := 119) dX3_layNext_118 rfl rfl rfl ?_
      refine wa_getfield (pc' := 122) (j := 3) zc_X3 lk_X3_39 dX3_layNext_119 rfl (by decide) rfl rfl ?_
      refine wa_iload_n (pc' := 123) dX3_layNext_122 rfl rfl rfl ?_
      refine wa_rV (pc' := 126) (k_X8_letterAt s.1 s.2.1 s.2.2.1 s.2.2.2.1 s.2.2.2.2.1 s.2.2.2.2.2.1 s.2.2.2.2.2.2 (plc s y9 i).2.2.1 i (by omega) (by omega) hT) ok_X8_letterAt lm_X3_84 dX3_layNext_123 rfl [1, 2, 3, 4] rfl (by decide) rfl rfl rfl rfl rfl (by decide) (Nat.le_of_ble_eq_true rfl) rfl (by decide) (by decide) rfl ?_
      show Wa _ _ _ _ _ _ _ _ [zI (ltr s.1 s.2.1 (plc s y9 i).2.2.1 i), _] _ _ _
      rw [show ltr s.1 s.2.1 (plc s y9 i).2.2.1 i = ltr s.1 s.2.1 y9.2.2.1 i from congrArg (fun x => ltr s.1 s.2.1 x i) hlp]
      refine wa_i2c (pc' := 127) dX3_layNext_126 rfl (by omega) (by omega) ?_
      refine wa_dV (pc' := 130) (w' := [_, _, _, _, _, _, _, zO _ [_, _], zA _ _ _]) (k_X7_add (plc s y9 i).2.1 (by omega) (by have := hp9.2.1; have := hp9.2.2.1; omega) (ltr s.1 s.2.1 y9.2.2.1 i) (by omega)) ok_X7_add lm_X3_87 dX3_layNext_127 rfl [7, 8] rfl (by decide) rfl rfl rfl rfl rfl (by decide) (Nat.le_of_ble_eq_true rfl) rfl (by decide) (by decide) rfl rfl rfl ?_
      refine wa_iinc (pc' := 133) (ls' := [(3, _), (2, _), (1, _), (0, _)]) dX3_layNext_130 rfl rfl (by decide) rfl ?_
      refine wa_goto (pc' := 70) dX3_layNext_133 (by decide) ?_
      refine wa_sub [1, 2, 0, 3] rfl ?_
      exact ih (i + 1) 1 (layS s y9 i) (by omega) (by omega) (by omega) (layS_ok hs h9) (by rw [hlS]; exact hl) hn hR9
    rw [layK] at hR
    refine wa_iload_n (pc' := 71) dX3_layNext_70 rfl rfl rfl ?_
    refine wa_if_eq (tgt := 136) (pc' := 74) dX3_layNext_71 (by decide) rfl (by omega) (fun c71 => ?_) (fun c71 => ?_)
    · exact l_layF s hc hs hT hF hL len i g (by omega) (by omega) hg R y h (by rw [if_pos (by omega)] at hR; exact hR)
    · refine wa_iload_n (pc' := 75) dX3_layNext_74 rfl rfl rfl ?_
      refine wa_iload_n (pc' := 76) dX3_layNext_75 rfl rfl rfl ?_
      refine wa_icmp_ge (tgt := 136) (pc' := 79) dX3_layNext_76 (by decide) rfl (by omega) (by omega) (fun c76 => ?_) (fun c76 => ?_)
      · exact l_layF s hc hs hT hF hL len i g (by omega) (by omega) hg R y h (by rw [if_pos (by omega)] at hR; exact hR)
      · refine wa_aload_n (pc' := 80) dX3_layNext_79 rfl rfl rfl ?_
        refine wa_iload_n (pc' := 81) dX3_layNext_80 rfl rfl rfl ?_
        refine wa_rV (pc' := 84) (k_X3_isInnerBreak s y i (by omega) (by omega) (by omega) hT hL) ok_X3_isInnerBreak lm_X3_75 dX3_layNext_81 rfl [0, 1, 2, 3, 4, 5, 6, 7, 8] rfl (by decide) rfl rfl rfl rfl rfl (by decide) (Nat.le_of_ble_eq_true rfl) rfl (by decide) (by decide) rfl ?_
        show Wa _ _ _ _ _ _ _ _ [zI (inB s y i)] _ _ _
        refine wa_if_eq (tgt := 95) (pc' := 87) dX3_layNext_84 (by decide) rfl (by omega) (fun c84 => ?_) (fun c84 => ?_)
        · refine wa_iconst (pc' := 96) dX3_layNext_95 rfl ?_
          refine wa_goto (pc' := 100) dX3_layNext_96 (by decide) ?_
          refine wa_istore_n (pc' := 101) (ls' := [(2, _), (1, _), (3, _), (0, _)]) dX3_layNext_100 rfl rfl (by decide) rfl ?_
          refine wa_iload_n (pc' := 102) dX3_layNext_101 rfl rfl rfl ?_
          refine wa_if_eq (tgt := 130) (pc' := 105) dX3_layNext_102 (by decide) rfl (by omega) (fun c102 => ?_) (fun c102 => ?_)
          · refine wa_iinc (pc' := 133) (ls' := [(3, _), (2, _), (1, _), (0, _)]) dX3_layNext_130 rfl rfl (by decide) rfl ?_
            refine wa_goto (pc' := 70) dX3_layNext_133 (by decide) ?_
            refine wa_sub [1, 2, 0, 3] rfl ?_
            first | exact absurd c102 (by decide) | ((repeat' split at hR) <;> first | omega | exact ih (i + 1) 0 (offE y i) (by omega) (by omega) (by omega) (okY_le hoE (by omega)) (by rw [hlnE]; exact hl) hn hR)
          · first | exact absurd rfl c102 | ((repeat' split at hR) <;> first | omega | exact hcont _ h rfl (by omega) hR | exact hcont _ hoE hlnE (by omega) hR)
        · refine wa_aload_n (pc' := 88) dX3_layNext_87 rfl rfl rfl ?_
          refine wa_iload_n (pc' := 89) dX3_layNext_88 rfl rfl rfl ?_
          refine wa_dV (pc' := 92) (w' := [zO _ [_, _, _, _, _, _, _, _, _, _, _], zO _ [_, _, _, _, _, _, _], zA _ _ _, zA _ _ _, zA _ _ _, zO _ [_, _], zA _ _ _, zO _ [_, _], zA _ _ _]) (k_X3_offerEnd s y i hwd (by omega) (by omega) (by omega)) ok_X3_offerEnd lm_X3_78 dX3_layNext_89 rfl [0, 1, 2, 3, 4, 5, 6, 7, 8] rfl (by decide) rfl rfl rfl rfl rfl (by decide) (Nat.le_of_ble_eq_true rfl) rfl (by decide) (by decide) rfl rfl rfl ?_
          show Wa _ _ _ _ _ _ _ _ [zI (offF y)] (wLy s (offE y i)) _ _
          refine wa_if_eq (tgt := 99) (pc' := 95) dX3_layNext_92 (by decide) rfl (by omega) (fun c92 => ?_) (fun c92 => ?_)
          · refine wa_iconst (pc' := 100) dX3_layNext_99 rfl ?_
            refine wa_istore_n (pc' := 101) (ls' := [(2, _), (1, _), (3, _), (0, _)]) dX3_layNext_100 rfl rfl (by decide) rfl ?_
            refine wa_iload_n (pc' := 102) dX3_layNext_101 rfl rfl rfl ?_
            refine wa_if_eq (tgt := 130) (pc' := 105) dX3_layNext_102 (by decide) rfl (by omega) (fun c102 => ?_) (fun c102 => ?_)
            · refine wa_iinc (pc' := 133) (ls' := [(3, _), (2, _), (1, _), (0, _)]) dX3_layNext_130 rfl rfl (by decide) rfl ?_
              refine wa_goto (pc' := 70) dX3_layNext_133 (by decide) ?_
              refine wa_sub [1, 2, 0, 3] rfl ?_
              first | exact absurd c102 (by decide) | ((repeat' split at hR) <;> first | omega | exact ih (i + 1) 0 (offE y i) (by omega) (by omega) (by omega) (okY_le hoE (by omega)) (by rw [hlnE]; exact hl) hn hR)
            · first | exact absurd rfl c102 | ((repeat' split at hR) <;> first | omega | exact hcont _ h rfl (by omega) hR | exact hcont _ hoE hlnE (by omega) hR)
          · refine wa_iconst (pc' := 96) dX3_layNext_95 rfl ?_
            refine wa_goto (pc' := 100) dX3_layNext_96 (by decide) ?_
            refine wa_istore_n (pc' := 101) (ls' := [(2, _), (1, _), (3, _), (0, _)]) dX3_layNext_100 rfl rfl (by decide) rfl ?_
            refine wa_iload_n (pc' := 102) dX3_layNext_101 rfl rfl rfl ?_
            refine wa_if_eq (tgt := 130) (pc' := 105) dX3_layNext_102 (by decide) rfl (by omega) (fun c102 => ?_) (fun c102 => ?_)
            · refine wa_iinc (pc' := 133) (ls' := [(3, _), (2, _), (1, _), (0, _)]) dX3_layNext_130 rfl rfl (by decide) rfl ?_
              refine wa_goto (pc' := 70) dX3_layNext_133 (by decide) ?_
              refine wa_sub [1, 2, 0, 3] rfl ?_
              first | exact absurd c102 (by decide) | ((repeat' split at hR) <;> first | omega | exact ih (i + 1) 0 (offE y i) (by omega) (by omega) (by omega) (okY_le hoE (by omega)) (by rw [hlnE]; exact hl) hn hR)
            · first | exact absurd rfl c102 | ((repeat' split at hR) <;> first | omega | exact hcont _ h rfl (by omega) hR | exact hcont _ hoE hlnE (by omega) hR)

theorem layN_P {s : zSh} {y : zLy} (hs : okN s) (hc : s.2.2.2.2.1 ≤ 40) (hT : ∀ k : Int, 0 ≤ k → k ≤ 201 → 0 ≤ s.2.1 k ∧ s.2.1 k ≤ 200) (h : okP s y) : okP s (layN s y) := by
  have t1 := hT y.2.2.1 (by have := h.2.2.2.2.2.2.1; omega) (by have := h.2.2.2.2.2.2.1; omega)
  have t2 := hT (y.2.2.1 + 1) (by have := h.2.2.2.2.2.2.1; omega) (by have := h.2.2.2.2.2.2.1; omega)
  have h5 := h.2.2.2.2.1
  unfold layN
  split
  · exact h
  · exact layK_P (by omega) hs hc _ _ _ _ (by omega) (lay0_ok h)
def okQ (y : zLy) : Prop := (0 ≤ y.1.1 ∧ y.1.1 ≤ 680) ∧ (0 ≤ y.2.1.1 ∧ y.2.1.1 ≤ 680) ∧ (0 ≤ y.2.2.2.2.2.2.2.2.1 ∧ y.2.2.2.2.2.2.2.2.1 ≤ 680) ∧ (0 ≤ y.2.2.2.2.2.2.2.2.2 ∧ y.2.2.2.2.2.2.2.2.2 ≤ 680)
theorem okP_Q {s : zSh} {y : zLy} (h : okP s y) : okQ y := ⟨h.1, h.2.1, h.2.2.1, h.2.2.2.1⟩
def staL (s : zSh) (y : zLy) (l w : Int) : zLy := (y.1, y.2.1, l, w, y.2.2.2.2.1, y.2.2.2.2.2.1, -1, cUT s.2.2.1 l (-1) s.2.2.2.2.1.toNat 0, y.2.2.2.2.2.2.2.2.1, y.2.2.2.2.2.2.2.2.2)
theorem staL_P {s : zSh} {y : zLy} {l w : Int} (h : okQ y) (hl : 0 ≤ l ∧ l ≤ 200) (hw : zin w) (hc : 0 ≤ s.2.2.2.2.1) : okP s (staL s y l w) := by
  have hu := cUT_le s.2.2.1 l (-1) s.2.2.2.2.1.toNat 0
  exact ⟨h.1, h.2.1, h.2.2.1, h.2.2.2, ⟨by show (-1 : Int) ≤ -1; omega, by show (-1 : Int) ≤ 200; omega⟩, ⟨by show 0 ≤ cUT _ _ _ _ _; omega, by show cUT _ _ _ _ _ ≤ _; omega⟩, hl, hw⟩
def layG (s : zSh) (y : zLy) : Int := if s.2.1 (y.2.2.1 + 1) - s.2.1 y.2.2.1 ≤ y.2.2.2.2.2.2.1 then 0 else 1
def cntP (s : zSh) : Nat → Int → zLy → Int × zLy
  | 0, n, y => (n, y)
  | m + 1, n, y => if 200 < n then (n, y) else if layG s y = 0 then (n, layN s y) else cntP s m (n + 1) (layN s y)
def fndP (s : zSh) (p : Int) : Nat → Int → Int → zLy → Int × zLy
  | 0, _, f, y => (f, y)
  | m + 1, k, f, y => if f = 0 ∨ p < k then (f, y) else fndP s p m (k + 1) (layG s y) (layN s y)
set_option maxRecDepth 10000 in
set_option maxHeartbeats 1000000 in
theorem k_X3_layNext (s : zSh) (y : zLy) (hp : okP s y) (hc : s.2.2.2.2.1 ≤ 40) (hs : okN s) (hT : ∀ k : Int, 0 ≤ k → k ≤ 201 → 0 ≤ s.2.1 k ∧ s.2.1 k ≤ 200) (hF : ∀ j : Int, 0 ≤ j → j < 200 → -1000 ≤ s.2.2.1 j ∧ s.2.2.1 j ≤ 1000) (hL : ∀ j : Int, 0 ≤ j → j < 200 → 0 ≤ s.1 j ∧ s.1 j < 65536) : zMet q_X3_layNext 7 0 0 [zR 0] (wLy s y) (zD (some (zI (layG s y))) (wLy s (layN s y))) := by
  refine z_introF (ls := [(0, _)]) (by decide +kernel) rfl (fun _ _ => rfl) (fun _ _ => Nat.le_of_ble_eq_true rfl) ?_
  have hpp := hp
  obtain ⟨h1, h2, h3, h4, h5, h6, h7, h8⟩ := hp
  have t1 := hT y.2.2.1 (by omega) (by omega)
  have t2 := hT (y.2.2.1 + 1) (by omega) (by omega)
  refine wa_aload_n (pc' := 1) dX3_layNext_0 rfl rfl rfl ?_
  refine wa_getfield (pc' := 4) (j := 0) zc_X3 lk_X3_21 dX3_layNext_1 rfl (by decide) rfl rfl ?_
  refine wa_aload_n (pc' := 5) dX3_layNext_4 rfl rfl rfl ?_
  refine wa_getfield (pc' := 8) (j := 3) zc_X3 lk_X3_39 dX3_layNext_5 rfl (by decide) rfl rfl ?_
  refine wa_rV (pc' := 11) (k_X8_lengthOf s.1 s.2.1 s.2.2.1 s.2.2.2.1 s.2.2.2.2.1 s.2.2.2.2.2.1 s.2.2.2.2.2.2 y.2.2.1 (by omega)) ok_X8_lengthOf lm_X3_56 dX3_layNext_8 rfl [1, 2, 3, 4] rfl (by decide) rfl rfl rfl rfl rfl (by decide) (Nat.le_of_ble_eq_true rfl) rfl (by decide) (by decide) rfl ?_
  refine wa_istore_n (pc' := 12) (ls' := [(1, _), (0, _)]) dX3_layNext_11 rfl rfl (by decide) rfl ?_
  refine wa_aload_n (pc' := 13) dX3_layNext_12 rfl rfl rfl ?_
  refine wa_getfield (pc' := 16) (j := 7) zc_X3 lk_X3_46 dX3_layNext_13 rfl (by decide) rfl rfl ?_
  refine wa_iload_n (pc' := 17) dX3_layNext_16 rfl rfl rfl ?_
  refine wa_icmp_lt (tgt := 22) (pc' := 20) dX3_layNext_17 (by decide) rfl (by omega) (by omega) (fun c17 => ?_) (fun c17 => ?_)
  · refine wa_aload_n (pc' := 23) dX3_layNext_22 rfl rfl rfl ?_
    refine wa_aload_n (pc' := 24) dX3_layNext_23 rfl rfl rfl ?_
    refine wa_getfield (pc' := 27) (j := 7) zc_X3 lk_X3_46 dX3_layNext_24 rfl (by decide) rfl rfl ?_
    refine wa_iconst (pc' := 28) dX3_layNext_27 rfl ?_
    refine wa_max (pc' := 31) dX3_layNext_28 rfl lmm_X3_60 zl_max1 zl_math zl_max2 (by omega) (by omega) (by decide) (Nat.le_of_ble_eq_true rfl) (by decide) (by decide) ?_
    refine wa_putfield (pc' := 34) (j := 5) (w' := [zO _ [_, _, _, _, _, _, _, _, _, _, _], _, _, _, _, _, _, _, _]) zc_X3 lk_X3_65 dX3_layNext_31 rfl (by decide) rfl rfl (Nat.le_of_ble_eq_true rfl) True.intro rfl ?_
    refine wa_aload_n (pc' := 35) dX3_layNext_34 rfl rfl rfl ?_
    refine wa_iconst (pc' := 36) dX3_layNext_35 rfl ?_
    refine wa_putfield (pc' := 39) (j := 7) (w' := [zO _ [_, _, _, _, _, _, _, _, _, _, _], _, _, _, _, _, _, _, _]) zc_X3 lk_X3_46 dX3_layNext_36 rfl (by decide) rfl rfl (Nat.le_of_ble_eq_true rfl) True.intro rfl ?_
    refine wa_aload_n (pc' := 40) dX3_layNext_39 rfl rfl rfl ?_
    refine wa_aload_n (pc' := 41) dX3_layNext_40 rfl rfl rfl ?_
    refine wa_getfield (pc' := 44) (j := 8) zc_X3 lk_X3_53 dX3_layNext_41 rfl (by decide) rfl rfl ?_
    refine wa_putfield (pc' := 47) (j := 6) (w' := [zO _ [_, _, _, _, _, _, _, _, _, _, _], _, _, _, _, _, _, _, _]) zc_X3 lk_X3_68 dX3_layNext_44 rfl (by decide) rfl rfl (Nat.le_of_ble_eq_true rfl) True.intro rfl ?_
    refine wa_aload_n (pc' := 48) dX3_layNext_47 rfl rfl rfl ?_
    refine wa_getfield (pc' := 51) (j := 1) zc_X3 lk_X3_12 dX3_layNext_48 rfl (by decide) rfl rfl ?_
    refine wa_iconst (pc' := 52) dX3_layNext_51 rfl ?_
    refine wa_dV (pc' := 55) (w' := [_, _, _, _, _, zO _ [_, _], zA _ _ _, _, _]) (k_X7_cutTo y.1 (by omega) (by omega) 0 (by omega)) ok_X7_cutTo lm_X3_71 dX3_layNext_52 rfl [5, 6] rfl (by decide) rfl rfl rfl rfl rfl (by decide) (Nat.le_of_ble_eq_true rfl) rfl (by decide) (by decide) rfl rfl rfl ?_
    refine wa_aload_n (pc' := 56) dX3_layNext_55 rfl rfl rfl ?_
    refine wa_getfield (pc' := 59) (j := 2) zc_X3 lk_X3_18 dX3_layNext_56 rfl (by decide) rfl rfl ?_
    refine wa_iconst (pc' := 60) dX3_layNext_59 rfl ?_
    refine wa_dV (pc' := 63) (w' := [_, _, _, _, _, _, _, zO _ [_, _], zA _ _ _]) (k_X7_cutTo y.2.1 (by omega) (by omega) 0 (by omega)) ok_X7_cutTo lm_X3_71 dX3_layNext_60 rfl [7, 8] rfl (by decide) rfl rfl rfl rfl rfl (by decide) (Nat.le_of_ble_eq_true rfl) rfl (by decide) (by decide) rfl rfl rfl ?_
    show Wa _ _ _ _ _ _ _ _ [] (wLy s (lay0 y)) _ _
    refine wa_iconst (pc' := 64) dX3_layNext_63 rfl ?_
    refine wa_istore_n (pc' := 65) (ls' := [(2, _), (1, _), (0, _)]) dX3_layNext_64 rfl rfl (by decide) rfl ?_
    refine wa_aload_n (pc' := 66) dX3_layNext_65 rfl rfl rfl ?_
    refine wa_getfield (pc' := 69) (j := 5) zc_X3 lk_X3_65 dX3_layNext_66 rfl (by decide) rfl rfl ?_
    refine wa_istore_n (pc' := 70) (ls' := [(3, _), (2, _), (1, _), (0, _)]) dX3_layNext_69 rfl rfl (by decide) rfl ?_
    refine wa_sub [1, 2, 0, 3] rfl ?_
    have e1 : layG s y = 1 := if_neg (by omega)
    rw [e1]
    exact l_layN s hc hs hT hF hL _ _ 201 (max y.2.2.2.2.2.2.1 0) 1 (lay0 y) (by omega) (Or.inr rfl) (by omega) (lay0_ok hpp) rfl (by omega) (by rw [layN, if_neg (by omega)])
  · refine wa_iconst (pc' := 21) dX3_layNext_20 rfl ?_
    refine wa_zret dX3_layNext_21 rfl (by decide) (by decide) (by omega) ?_
    exact zD_i (by rw [layG, if_pos (by omega)]) (by rw [layN, if_pos (by omega)])

set_option maxRecDepth 10000 in
set_option maxHeartbeats 1000000 in
theorem l_count (s : zSh) (hc : s.2.2.2.2.1 ≤ 40) (hs : okN s) (hT : ∀ k : Int, 0 ≤ k → k ≤ 201 → 0 ≤ s.2.1 k ∧ s.2.1 k ≤ 200) (hF : ∀ j : Int, 0 ≤ j → j < 200 → -1000 ≤ s.2.2.1 j ∧ s.2.2.1 j ≤ 1000) (hL : ∀ j : Int, 0 ≤ j → j < 200 → 0 ≤ s.1 j ∧ s.1 j < 65536) (l w : Int) (R : Int × zLy) : ∀ (m : Nat) (n : Int) (y : zLy), 0 ≤ n ∧ n ≤ 201 → 201 - n ≤ m → okP s y → cntP s m n y = R → Wa q_X3_countPairs 8 0 0 9 (zD (some (zI R.1)) (wLy s R.2)) 8 [(3, zI n), (0, zR 0), (1, zI l), (2, zI w)] [] (wLy s y) 0 0 := by
  intro m
  induction m with
  | zero =>
    intro n y hn hm h hR
    subst hR
    refine wa_iload_n (pc' := 9) dX3_countPairs_8 rfl rfl rfl ?_
    refine wa_sipush (pc' := 12) dX3_countPairs_9 rfl rfl ?_
    refine wa_icmp_gt (tgt := 28) (pc' := 15) dX3_countPairs_12 (by decide) rfl (by omega) (by omega) (fun c12 => ?_) (fun c12 => ?_)
    · refine wa_iload_n (pc' := 29) dX3_countPairs_28 rfl rfl rfl ?_
      refine wa_iret dX3_countPairs_29 rfl (by decide) (by decide) ?_
      exact ⟨rfl, rfl⟩
    · exact absurd c12 (by omega)
  | succ m ih =>
    intro n y hn hm h hR
    have gG : layG s y = 0 ∨ layG s y = 1 := by unfold layG; split <;> omega
    rw [cntP] at hR
    refine wa_iload_n (pc' := 9) dX3_countPairs_8 rfl rfl rfl ?_
    refine wa_sipush (pc' := 12) dX3_countPairs_9 rfl rfl ?_
    refine wa_icmp_gt (tgt := 28) (pc' := 15) dX3_countPairs_12 (by decide) rfl (by omega) (by omega) (fun c12 => ?_) (fun c12 => ?_)
    · refine wa_iload_n (pc' := 29) dX3_countPairs_28 rfl rfl rfl ?_
      refine wa_iret dX3_countPairs_29 rfl (by decide) (by decide) ?_
      (repeat' split at hR) <;> first | omega | (subst hR; exact zD_i rfl rfl)
    · refine wa_aload_n (pc' := 16) dX3_countPairs_15 rfl rfl rfl ?_
      refine wa_dV (pc' := 19) (w' := [zO _ [_, _, _, _, _, _, _, _, _, _, _], zO _ [_, _, _, _, _, _, _], zA _ _ _, zA _ _ _, zA _ _ _, zO _ [_, _], zA _ _ _, zO _ [_, _], zA _ _ _]) (k_X3_layNext s y h hc hs hT hF hL) ok_X3_layNext lm_X3_29 dX3_countPairs_16 rfl [0, 1, 2, 3, 4, 5, 6, 7, 8] rfl (by decide) rfl rfl rfl rfl rfl (by decide) (Nat.le_of_ble_eq_true rfl) rfl (by decide) (by decide) rfl rfl rfl ?_
      show Wa _ _ _ _ _ _ _ _ [zI (layG s y)] (wLy s (layN s y)) _ _
      refine wa_if_eq (tgt := 28) (pc' := 22) dX3_countPairs_19 (by decide) rfl (by omega) (fun c19 => ?_) (fun c19 => ?_)
      · refine wa_iload_n (pc' := 29) dX3_countPairs_28 rfl rfl rfl ?_
        refine wa_iret dX3_countPairs_29 rfl (by decide) (by decide) ?_
        (repeat' split at hR) <;> first | omega | (subst hR; exact zD_i rfl rfl)
      · refine wa_iinc (pc' := 25) (ls' := [(3, _), (0, _), (1, _), (2, _)]) dX3_countPairs_22 rfl rfl (by decide) rfl ?_
        refine wa_goto (pc' := 8) dX3_countPairs_25 (by decide) ?_
        (repeat' split at hR) <;> first | omega | exact ih (n + 1) _ (by omega) (by omega) (layN_P hs hc hT h) hR

set_option maxRecDepth 10000 in
set_option maxHeartbeats 1000000 in
theorem k_X3_countPairs (s : zSh) (y : zLy) (l w : Int) (hl : 0 ≤ l ∧ l ≤ 200) (hw : zin w) (hq : okQ y) (h0 : 0 ≤ s.2.2.2.2.1) (hc : s.2.2.2.2.1 ≤ 40) (hs : okN s) (hT : ∀ k : Int, 0 ≤ k → k ≤ 201 → 0 ≤ s.2.1 k ∧ s.2.1 k ≤ 200) (hF : ∀ j : Int, 0 ≤ j → j < 200 → -1000 ≤ s.2.2.1 j ∧ s.2.2.1 j ≤ 1000) (hL : ∀ j : Int, 0 ≤ j → j < 200 → 0 ≤ s.1 j ∧ s.1 j < 65536) : zMet q_X3_countPairs 8 0 0 [zR 0, zI l, zI w] (wLy s y) (zD (some (zI (cntP s 201 0 (staL s y l w)).1)) (wLy s (cntP s 201 0 (staL s y l w)).2)) := by
  refine z_introF (ls := [(0, _), (1, _), (2, _)]) (by decide +kernel) rfl (fun _ _ => rfl) (fun _ _ => Nat.le_of_ble_eq_true rfl) ?_
  refine wa_aload_n (pc' := 1) dX3_countPairs_0 rfl rfl rfl ?_
  refine wa_iload_n (pc' := 2) dX3_countPairs_1 rfl rfl rfl ?_
  refine wa_iload_n (pc' := 3) dX3_countPairs_2 rfl rfl rfl ?_
  refine wa_dV (pc' := 6) (w' := [zO _ [_, _, _, _, _, _, _, _, _, _, _], zO _ [_, _, _, _, _, _, _], zA _ _ _, zA _ _ _, zA _ _ _, zO _ [_, _], zA _ _ _, zO _ [_, _], zA _ _ _]) (k_X3_start s y l w (by omega) (by omega) hF) ok_X3_start lm_X3_25 dX3_countPairs_3 rfl [0, 1, 2, 3, 4, 5, 6, 7, 8] rfl (by decide) rfl rfl rfl rfl rfl (by decide) (Nat.le_of_ble_eq_true rfl) rfl (by decide) (by decide) rfl rfl rfl ?_
  show Wa _ _ _ _ _ _ _ _ [] (wLy s (staL s y l w)) _ _
  refine wa_iconst (pc' := 7) dX3_countPairs_6 rfl ?_
  refine wa_istore_n (pc' := 8) (ls' := [(3, _), (0, _), (1, _), (2, _)]) dX3_countPairs_7 rfl rfl (by decide) rfl ?_
  exact l_count s hc hs hT hF hL l w _ 201 0 _ (by omega) (by omega) (staL_P hq hl hw h0) rfl

set_option maxRecDepth 10000 in
set_option maxHeartbeats 1000000 in
theorem l_find (s : zSh) (hc : s.2.2.2.2.1 ≤ 40) (hs : okN s) (hT : ∀ k : Int, 0 ≤ k → k ≤ 201 → 0 ≤ s.2.1 k ∧ s.2.1 k ≤ 200) (hF : ∀ j : Int, 0 ≤ j → j < 200 → -1000 ≤ s.2.2.1 j ∧ s.2.2.1 j ≤ 1000) (hL : ∀ j : Int, 0 ≤ j → j < 200 → 0 ≤ s.1 j ∧ s.1 j < 65536) (l p kd w : Int) (hp : zin p) (hk : zin kd) (R : Int × zLy) : ∀ (m : Nat) (k f : Int) (y : zLy), 0 ≤ k ∧ k ≤ 201 → (f = 0 ∨ f = 1) → (f = 1 → p ≤ 200 ∧ p + 1 - k ≤ m ∧ okP s y) → fndP s p m k f y = R → Wa q_X3_find 8 0 0 9 (zD (some (if R.1 = 0 then zN else if kd = 0 then zR 5 else zR 7)) (wLy s R.2)) 48 [(6, zI k), (5, zI f), (0, zR 0), (1, zI l), (2, zI p), (3, zI kd), (4, zI w)] [] (wLy s y) 0 0 := by
  intro m
  induction m with
  | zero =>
    intro k f y hk0 hf h hR
    subst hR
    refine wa_iload (pc' := 50) dX3_find_48 rfl rfl ?_
    refine wa_if_eq (tgt := 71) (pc' := 53) dX3_find_50 (by decide) rfl (by omega) (fun c50 => ?_) (fun c50 => ?_)
    · refine wa_iload (pc' := 73) dX3_find_71 rfl rfl ?_
      refine wa_if_ne (tgt := 78) (pc' := 76) dX3_find_73 (by decide) rfl (by omega) (fun c73 => ?_) (fun c73 => ?_)
      · refine wa_iload_n (pc' := 79) dX3_find_78 rfl rfl rfl ?_
        refine wa_if_ne (tgt := 89) (pc' := 82) dX3_find_79 (by decide) rfl (by omega) (fun c79 => ?_) (fun c79 => ?_)
        · refine wa_aload_n (pc' := 90) dX3_find_89 rfl rfl rfl ?_
          refine wa_getfield (pc' := 93) (j := 2) zc_X3 lk_X3_18 dX3_find_90 rfl (by decide) rfl rfl ?_
          refine wa_aret dX3_find_93 rfl (by decide) (by decide) ?_
          first | exact zD_i (congrArg some ((if_neg (show ¬ f = 0 by omega)).trans (if_pos (show kd = 0 by omega)))).symm rfl | exact zD_i (congrArg some ((if_neg (show ¬ f = 0 by omega)).trans (if_neg (show ¬ kd = 0 by omega)))).symm rfl
        · refine wa_aload_n (pc' := 83) dX3_find_82 rfl rfl rfl ?_
          refine wa_getfield (pc' := 86) (j := 1) zc_X3 lk_X3_12 dX3_find_83 rfl (by decide) rfl rfl ?_
          refine wa_goto (pc' := 93) dX3_find_86 (by decide) ?_
          refine wa_aret dX3_find_93 rfl (by decide) (by decide) ?_
          first | exact zD_i (congrArg some ((if_neg (show ¬ f = 0 by omega)).trans (if_pos (show kd = 0 by omega)))).symm rfl | exact zD_i (congrArg some ((if_neg (show ¬ f = 0 by omega)).trans (if_neg (show ¬ kd = 0 by omega)))).symm rfl
      · refine wa_null (pc' := 77) dX3_find_76 rfl ?_
        refine wa_aret dX3_find_77 rfl (by decide) (by decide) ?_
        exact zD_i (congrArg some (if_pos (show f = 0 by omega))).symm rfl
    · refine wa_iload (pc' := 55) dX3_find_53 rfl rfl ?_
      refine wa_iload_n (pc' := 56) dX3_find_55 rfl rfl rfl ?_
      refine wa_icmp_gt (tgt := 71) (pc' := 59) dX3_find_56 (by decide) rfl (by omega) (by omega) (fun c56 => ?_) (fun c56 => ?_)
      · refine wa_iload (pc' := 73) dX3_find_71 rfl rfl ?_
        refine wa_if_ne (tgt := 78) (pc' := 76) dX3_find_73 (by decide) rfl (by omega) (fun c73 => ?_) (fun c73 => ?_)
        · refine wa_iload_n (pc' := 79) dX3_find_78 rfl rfl rfl ?_
          refine wa_if_ne (tgt := 89) (pc' := 82) dX3_find_79 (by decide) rfl (by omega) (fun c79 => ?_) (fun c79 => ?_)
          · refine wa_aload_n (pc' := 90) dX3_find_89 rfl rfl rfl ?_
            refine wa_getfield (pc' := 93) (j := 2) zc_X3 lk_X3_18 dX3_find_90 rfl (by decide) rfl rfl ?_
            refine wa_aret dX3_find_93 rfl (by decide) (by decide) ?_
            first | exact zD_i (congrArg some ((if_neg (show ¬ f = 0 by omega)).trans (if_pos (show kd = 0 by omega)))).symm rfl | exact zD_i (congrArg some ((if_neg (show ¬ f = 0 by omega)).trans (if_neg (show ¬ kd = 0 by omega)))).symm rfl
          · refine wa_aload_n (pc' := 83) dX3_find_82 rfl rfl rfl ?_
            refine wa_getfield (pc' := 86) (j := 1) zc_X3 lk_X3_12 dX3_find_83 rfl (by decide) rfl rfl ?_
            refine wa_goto (pc' := 93) dX3_find_86 (by decide) ?_
            refine wa_aret dX3_find_93 rfl (by decide) (by decide) ?_
            first | exact zD_i (congrArg some ((if_neg (show ¬ f = 0 by omega)).trans (if_pos (show kd = 0 by omega)))).symm rfl | exact zD_i (congrArg some ((if_neg (show ¬ f = 0 by omega)).trans (if_neg (show ¬ kd = 0 by omega)))).symm rfl
        · refine wa_null (pc' := 77) dX3_find_76 rfl ?_
          refine wa_aret dX3_find_77 rfl (by decide) (by decide) ?_
          exact zD_i (congrArg some (if_pos (show f = 0 by omega))).symm rfl
      · exact absurd c56 (by omega)
  | succ m ih =>
    intro k f y hk0 hf h hR
    have gG : layG s y = 0 ∨ layG s y = 1 := by unfold layG; split <;> omega
    rw [fndP] at hR
    refine wa_iload (pc' := 50) dX3_find_48 rfl rfl ?_
    refine wa_if_eq (tgt := 71) (pc' := 53) dX3_find_50 (by decide) rfl (by omega) (fun c50 => ?_) (fun c50 => ?_)
    · rw [if_pos (by omega)] at hR
      subst hR
      refine wa_iload (pc' := 73) dX3_find_71 rfl rfl ?_
      refine wa_if_ne (tgt := 78) (pc' := 76) dX3_find_73 (by decide) rfl (by omega) (fun c73 => ?_) (fun c73 => ?_)
      · refine wa_iload_n (pc' := 79) dX3_find_78 rfl rfl rfl ?_
        refine wa_if_ne (tgt := 89) (pc' := 82) dX3_find_79 (by decide) rfl (by omega) (fun c79 => ?_) (fun c79 => ?_)
        · refine wa_aload_n (pc' := 90) dX3_find_89 rfl rfl rfl ?_
          refine wa_getfield (pc' := 93) (j := 2) zc_X3 lk_X3_18 dX3_find_90 rfl (by decide) rfl rfl ?_
          refine wa_aret dX3_find_93 rfl (by decide) (by decide) ?_
          first | exact zD_i (congrArg some ((if_neg (show ¬ f = 0 by omega)).trans (if_pos (show kd = 0 by omega)))).symm rfl | exact zD_i (congrArg some ((if_neg (show ¬ f = 0 by omega)).trans (if_neg (show ¬ kd = 0 by omega)))).symm rfl
        · refine wa_aload_n (pc' := 83) dX3_find_82 rfl rfl rfl ?_
          refine wa_getfield (pc' := 86) (j := 1) zc_X3 lk_X3_12 dX3_find_83 rfl (by decide) rfl rfl ?_
          refine wa_goto (pc' := 93) dX3_find_86 (by decide) ?_
          refine wa_aret dX3_find_93 rfl (by decide) (by decide) ?_
          first | exact zD_i (congrArg some ((if_neg (show ¬ f = 0 by omega)).trans (if_pos (show kd = 0 by omega)))).symm rfl | exact zD_i (congrArg some ((if_neg (show ¬ f = 0 by omega)).trans (if_neg (show ¬ kd = 0 by omega)))).symm rfl
      · refine wa_null (pc' := 77) dX3_find_76 rfl ?_
        refine wa_aret dX3_find_77 rfl (by decide) (by decide) ?_
        exact zD_i (congrArg some (if_pos (show f = 0 by omega))).symm rfl
    · obtain ⟨hp2, hm, hP⟩ := h (by omega)
      refine wa_iload (pc' := 55) dX3_find_53 rfl rfl ?_
      refine wa_iload_n (pc' := 56) dX3_find_55 rfl rfl rfl ?_
      refine wa_icmp_gt (tgt := 71) (pc' := 59) dX3_find_56 (by decide) rfl (by omega) (by omega) (fun c56 => ?_) (fun c56 => ?_)
      · rw [if_pos (by omega)] at hR
        subst hR
        refine wa_iload (pc' := 73) dX3_find_71 rfl rfl ?_
        refine wa_if_ne (tgt := 78) (pc' := 76) dX3_find_73 (by decide) rfl (by omega) (fun c73 => ?_) (fun c73 => ?_)
        · refine wa_iload_n (pc' := 79) dX3_find_78 rfl rfl rfl ?_
          refine wa_if_ne (tgt := 89) (pc' := 82) dX3_find_79 (by decide) rfl (by omega) (fun c79 => ?_) (fun c79 => ?_)
          · refine wa_aload_n (pc' := 90) dX3_find_89 rfl rfl rfl ?_
            refine wa_getfield (pc' := 93) (j := 2) zc_X3 lk_X3_18 dX3_find_90 rfl (by decide) rfl rfl ?_
            refine wa_aret dX3_find_93 rfl (by decide) (by decide) ?_
            first | exact zD_i (congrArg some ((if_neg (show ¬ f = 0 by omega)).trans (if_pos (show kd = 0 by omega)))).symm rfl | exact zD_i (congrArg some ((if_neg (show ¬ f = 0 by omega)).trans (if_neg (show ¬ kd = 0 by omega)))).symm rfl
          · refine wa_aload_n (pc' := 83) dX3_find_82 rfl rfl rfl ?_
            refine wa_getfield (pc' := 86) (j := 1) zc_X3 lk_X3_12 dX3_find_83 rfl (by decide) rfl rfl ?_
            refine wa_goto (pc' := 93) dX3_find_86 (by decide) ?_
            refine wa_aret dX3_find_93 rfl (by decide) (by decide) ?_
            first | exact zD_i (congrArg some ((if_neg (show ¬ f = 0 by omega)).trans (if_pos (show kd = 0 by omega)))).symm rfl | exact zD_i (congrArg some ((if_neg (show ¬ f = 0 by omega)).trans (if_neg (show ¬ kd = 0 by omega)))).symm rfl
        · refine wa_null (pc' := 77) dX3_find_76 rfl ?_
          refine wa_aret dX3_find_77 rfl (by decide) (by decide) ?_
          exact zD_i (congrArg some (if_pos (show f = 0 by omega))).symm rfl
      · rw [if_neg (by omega)] at hR
        refine wa_aload_n (pc' := 60) dX3_find_59 rfl rfl rfl ?_
        refine wa_dV (pc' := 63) (w' := [zO _ [_, _, _, _, _, _, _, _, _, _, _], zO _ [_, _, _, _, _, _, _], zA _ _ _, zA _ _ _, zA _ _ _, zO _ [_, _], zA _ _ _, zO _ [_, _], zA _ _ _]) (k_X3_layNext s y hP hc hs hT hF hL) ok_X3_layNext lm_X3_29 dX3_find_60 rfl [0, 1, 2, 3, 4, 5, 6, 7, 8] rfl (by decide) rfl rfl rfl rfl rfl (by decide) (Nat.le_of_ble_eq_true rfl) rfl (by decide) (by decide) rfl rfl rfl ?_
        show Wa _ _ _ _ _ _ _ _ [zI (layG s y)] (wLy s (layN s y)) _ _
        refine wa_istore (pc' := 65) (ls' := [(5, _), (6, _), (0, _), (1, _), (2, _), (3, _), (4, _)]) dX3_find_63 rfl (by decide) rfl ?_
        refine wa_iinc (pc' := 68) (ls' := [(6, _), (5, _), (0, _), (1, _), (2, _), (3, _), (4, _)]) dX3_find_65 rfl rfl (by decide) rfl ?_
        refine wa_goto (pc' := 48) dX3_find_68 (by decide) ?_
        exact ih (k + 1) _ _ (by omega) gG (fun _ => ⟨hp2, by omega, layN_P hs hc hT hP⟩) hR

set_option maxRecDepth 10000 in
set_option maxHeartbeats 1000000 in
theorem k_X3_find (s : zSh) (y : zLy) (l p kd w : Int) (hl : zin l) (hp : zin p) (hk : zin kd) (hw : zin w) (hlc : 1 ≤ s.2.2.2.1 ∧ s.2.2.2.1 ≤ 201) (hq : okQ y) (h0 : 0 ≤ s.2.2.2.2.1) (hc : s.2.2.2.2.1 ≤ 40) (hs : okN s) (hT : ∀ k : Int, 0 ≤ k → k ≤ 201 → 0 ≤ s.2.1 k ∧ s.2.1 k ≤ 200) (hF : ∀ j : Int, 0 ≤ j → j < 200 → -1000 ≤ s.2.2.1 j ∧ s.2.2.1 j ≤ 1000) (hL : ∀ j : Int, 0 ≤ j → j < 200 → 0 ≤ s.1 j ∧ s.1 j < 65536) : zMet q_X3_find 8 0 0 [zR 0, zI l, zI p, zI kd, zI w] (wLy s y) (zD (some (if (fndP s p 201 0 (if (0 ≤ l ∧ l < s.2.2.2.1) ∧ (kd = 0 ∨ kd = 1) ∧ (0 ≤ p ∧ p ≤ 200) then 1 else 0) (staL s y l w)).1 = 0 then zN else if kd = 0 then zR 5 else zR 7)) (wLy s (fndP s p 201 0 (if (0 ≤ l ∧ l < s.2.2.2.1) ∧ (kd = 0 ∨ kd = 1) ∧ (0 ≤ p ∧ p ≤ 200) then 1 else 0) (staL s y l w)).2)) := by
  refine z_introF (ls := [(0, _), (1, _), (2, _), (3, _), (4, _)]) (by decide +kernel) rfl (fun _ _ => rfl) (fun _ _ => Nat.le_of_ble_eq_true rfl) ?_
  refine wa_aload_n (pc' := 1) dX3_find_0 rfl rfl rfl ?_
  refine wa_getfield (pc' := 4) (j := 0) zc_X3 lk_X3_21 dX3_find_1 rfl (by decide) rfl rfl ?_
  refine wa_iload_n (pc' := 5) dX3_find_4 rfl rfl rfl ?_
  refine wa_rV (pc' := 8) (k_X8_hasLine s.1 s.2.1 s.2.2.1 s.2.2.2.1 s.2.2.2.2.1 s.2.2.2.2.2.1 s.2.2.2.2.2.2 l (by omega) (by omega)) ok_X8_hasLine lm_X3_33 dX3_find_5 rfl [1, 2, 3, 4] rfl (by decide) rfl rfl rfl rfl rfl (by decide) (Nat.le_of_ble_eq_true rfl) rfl (by decide) (by decide) rfl ?_
  show Wa _ _ _ _ _ _ _ _ [zI (if 0 ≤ l ∧ l < s.2.2.2.1 then 1 else 0)] _ _ _
  refine wa_if_eq (tgt := 35) (pc' := 11) dX3_find_8 (by decide) rfl (by omega) (fun c8 => ?_) (fun c8 => ?_)
  · refine wa_iconst (pc' := 36) dX3_find_35 rfl ?_
    refine wa_istore (pc' := 38) (ls' := [(5, _), (0, _), (1, _), (2, _), (3, _), (4, _)]) dX3_find_36 rfl (by decide) rfl ?_
    refine wa_aload_n (pc' := 39) dX3_find_38 rfl rfl rfl ?_
    refine wa_iload_n (pc' := 40) dX3_find_39 rfl rfl rfl ?_
    refine wa_iload (pc' := 42) dX3_find_40 rfl rfl ?_
    refine wa_dV (pc' := 45) (w' := [zO _ [_, _, _, _, _, _, _, _, _, _, _], zO _ [_, _, _, _, _, _, _], zA _ _ _, zA _ _ _, zA _ _ _, zO _ [_, _], zA _ _ _, zO _ [_, _], zA _ _ _]) (k_X3_start s y l w (by omega) (by omega) hF) ok_X3_start lm_X3_25 dX3_find_42 rfl [0, 1, 2, 3, 4, 5, 6, 7, 8] rfl (by decide) rfl rfl rfl rfl rfl (by decide) (Nat.le_of_ble_eq_true rfl) rfl (by decide) (by decide) rfl rfl rfl ?_
    show Wa _ _ _ _ _ _ _ _ [] (wLy s (staL s y l w)) _ _
    refine wa_iconst (pc' := 46) dX3_find_45 rfl ?_
    refine wa_istore (pc' := 48) (ls' := [(6, _), (5, _), (0, _), (1, _), (2, _), (3, _), (4, _)]) dX3_find_46 rfl (by decide) rfl ?_
    first | rw [if_pos (show (0 ≤ l ∧ l < s.2.2.2.1) ∧ (kd = 0 ∨ kd = 1) ∧ (0 ≤ p ∧ p ≤ 200) by omega)] | rw [if_neg (show ¬ ((0 ≤ l ∧ l < s.2.2.2.1) ∧ (kd = 0 ∨ kd = 1) ∧ (0 ≤ p ∧ p ≤ 200)) by omega)]
    exact l_find s hc hs hT hF hL l p kd w hp hk _ 201 0 _ _ (by omega) (by omega) (fun _ => ⟨by omega, by omega, staL_P hq (by omega) hw h0⟩) rfl
  · refine wa_iload_n (pc' := 12) dX3_find_11 rfl rfl rfl ?_
    refine wa_if_eq (tgt := 20) (pc' := 15) dX3_find_12 (by decide) rfl (by omega) (fun c12 => ?_) (fun c12 => ?_)
    · refine wa_iload_n (pc' := 21) dX3_find_20 rfl rfl rfl ?_
      refine wa_if_lt (tgt := 35) (pc' := 24) dX3_find_21 (by decide) rfl (by omega) (fun c21 => ?_) (fun c21 => ?_)
      · refine wa_iconst (pc' := 36) dX3_find_35 rfl ?_
        refine wa_istore (pc' := 38) (ls' := [(5, _), (0, _), (1, _), (2, _), (3, _), (4, _)]) dX3_find_36 rfl (by decide) rfl ?_
        refine wa_aload_n (pc' := 39) dX3_find_38 rfl rfl rfl ?_
        refine wa_iload_n (pc' := 40) dX3_find_39 rfl rfl rfl ?_
        refine wa_iload (pc' := 42) dX3_find_40 rfl rfl ?_
        refine wa_dV (pc' := 45) (w' := [zO _ [_, _, _, _, _, _, _, _, _, _, _], zO _ [_, _, _, _, _, _, _], zA _ _ _, zA _ _ _, zA _ _ _, zO _ [_, _], zA _ _ _, zO _ [_, _], zA _ _ _]) (k_X3_start s y l w (by omega) (by omega) hF) ok_X3_start lm_X3_25 dX3_find_42 rfl [0, 1, 2, 3, 4, 5, 6, 7, 8] rfl (by decide) rfl rfl rfl rfl rfl (by decide) (Nat.le_of_ble_eq_true rfl) rfl (by decide) (by decide) rfl rfl rfl ?_
        show Wa _ _ _ _ _ _ _ _ [] (wLy s (staL s y l w)) _ _
        refine wa_iconst (pc' := 46) dX3_find_45 rfl ?_
        refine wa_istore (pc' := 48) (ls' := [(6, _), (5, _), (0, _), (1, _), (2, _), (3, _), (4, _)]) dX3_find_46 rfl (by decide) rfl ?_
        first | rw [if_pos (show (0 ≤ l ∧ l < s.2.2.2.1) ∧ (kd = 0 ∨ kd = 1) ∧ (0 ≤ p ∧ p ≤ 200) by omega)] | rw [if_neg (show ¬ ((0 ≤ l ∧ l < s.2.2.2.1) ∧ (kd = 0 ∨ kd = 1) ∧ (0 ≤ p ∧ p ≤ 200)) by omega)]
        exact l_find s hc hs hT hF hL l p kd w hp hk _ 201 0 _ _ (by omega) (by omega) (fun _ => ⟨by omega, by omega, staL_P hq (by omega) hw h0⟩) rfl
      · refine wa_iload_n (pc' := 25) dX3_find_24 rfl rfl rfl ?_
        refine wa_sipush (pc' := 28) dX3_find_25 rfl rfl ?_
        refine wa_icmp_gt (tgt := 35) (pc' := 31) dX3_find_28 (by decide) rfl (by omega) (by omega) (fun c28 => ?_) (fun c28 => ?_)
        · refine wa_iconst (pc' := 36) dX3_find_35 rfl ?_
          refine wa_istore (pc' := 38) (ls' := [(5, _), (0, _), (1, _), (2, _), (3, _), (4, _)]) dX3_find_36 rfl (by decide) rfl ?_
          refine wa_aload_n (pc' := 39) dX3_find_38 rfl rfl rfl ?_
          refine wa_iload_n (pc' := 40) dX3_find_39 rfl rfl rfl ?_
          refine wa_iload (pc' := 42) dX3_find_40 rfl rfl ?_
          refine wa_dV (pc' := 45) (w' := [zO _ [_, _, _, _, _, _, _, _, _, _, _], zO _ [_, _, _, _, _, _, _], zA _ _ _, zA _ _ _, zA _ _ _, zO _ [_, _], zA _ _ _, zO _ [_, _], zA _ _ _]) (k_X3_start s y l w (by omega) (by omega) hF) ok_X3_start lm_X3_25 dX3_find_42 rfl [0, 1, 2, 3, 4, 5, 6, 7, 8] rfl (by decide) rfl rfl rfl rfl rfl (by decide) (Nat.le_of_ble_eq_true rfl) rfl (by decide) (by decide) rfl rfl rfl ?_
          show Wa _ _ _ _ _ _ _ _ [] (wLy s (staL s y l w)) _ _
          refine wa_iconst (pc' := 46) dX3_find_45 rfl ?_
          refine wa_istore (pc' := 48) (ls' := [(6, _), (5, _), (0, _), (1, _), (2, _), (3, _), (4, _)]) dX3_find_46 rfl (by decide) rfl ?_
          first | rw [if_pos (show (0 ≤ l ∧ l < s.2.2.2.1) ∧ (kd = 0 ∨ kd = 1) ∧ (0 ≤ p ∧ p ≤ 200) by omega)] | rw [if_neg (show ¬ ((0 ≤ l ∧ l < s.2.2.2.1) ∧ (kd = 0 ∨ kd = 1) ∧ (0 ≤ p ∧ p ≤ 200)) by omega)]
          exact l_find s hc hs hT hF hL l p kd w hp hk _ 201 0 _ _ (by omega) (by omega) (fun _ => ⟨by omega, by omega, staL_P hq (by omega) hw h0⟩) rfl
        · refine wa_iconst (pc' := 32) dX3_find_31 rfl ?_
          refine wa_goto (pc' := 36) dX3_find_32 (by decide) ?_
          refine wa_istore (pc' := 38) (ls' := [(5, _), (0, _), (1, _), (2, _), (3, _), (4, _)]) dX3_find_36 rfl (by decide) rfl ?_
          refine wa_aload_n (pc' := 39) dX3_find_38 rfl rfl rfl ?_
          refine wa_iload_n (pc' := 40) dX3_find_39 rfl rfl rfl ?_
          refine wa_iload (pc' := 42) dX3_find_40 rfl rfl ?_
          refine wa_dV (pc' := 45) (w' := [zO _ [_, _, _, _, _, _, _, _, _, _, _], zO _ [_, _, _, _, _, _, _], zA _ _ _, zA _ _ _, zA _ _ _, zO _ [_, _], zA _ _ _, zO _ [_, _], zA _ _ _]) (k_X3_start s y l w (by omega) (by omega) hF) ok_X3_start lm_X3_25 dX3_find_42 rfl [0, 1, 2, 3, 4, 5, 6, 7, 8] rfl (by decide) rfl rfl rfl rfl rfl (by decide) (Nat.le_of_ble_eq_true rfl) rfl (by decide) (by decide) rfl rfl rfl ?_
          show Wa _ _ _ _ _ _ _ _ [] (wLy s (staL s y l w)) _ _
          refine wa_iconst (pc' := 46) dX3_find_45 rfl ?_
          refine wa_istore (pc' := 48) (ls' := [(6, _), (5, _), (0, _), (1, _), (2, _), (3, _), (4, _)]) dX3_find_46 rfl (by decide) rfl ?_
          first | rw [if_pos (show (0 ≤ l ∧ l < s.2.2.2.1) ∧ (kd = 0 ∨ kd = 1) ∧ (0 ≤ p ∧ p ≤ 200) by omega)] | rw [if_neg (show ¬ ((0 ≤ l ∧ l < s.2.2.2.1) ∧ (kd = 0 ∨ kd = 1) ∧ (0 ≤ p ∧ p ≤ 200)) by omega)]
          exact l_find s hc hs hT hF hL l p kd w hp hk _ 201 0 _ _ (by omega) (by omega) (fun _ => ⟨by omega, by omega, staL_P hq (by omega) hw h0⟩) rfl
    · refine wa_iload_n (pc' := 16) dX3_find_15 rfl rfl rfl ?_
      refine wa_iconst (pc' := 17) dX3_find_16 rfl ?_
      refine wa_icmp_ne (tgt := 35) (pc' := 20) dX3_find_17 (by decide) rfl (by omega) (by omega) (fun c17 => ?_) (fun c17 => ?_)
      · refine wa_iconst (pc' := 36) dX3_find_35 rfl ?_
        refine wa_istore (pc' := 38) (ls' := [(5, _), (0, _), (1, _), (2, _), (3, _), (4, _)]) dX3_find_36 rfl (by decide) rfl ?_
        refine wa_aload_n (pc' := 39) dX3_find_38 rfl rfl rfl ?_
        refine wa_iload_n (pc' := 40) dX3_find_39 rfl rfl rfl ?_
        refine wa_iload (pc' := 42) dX3_find_40 rfl rfl ?_
        refine wa_dV (pc' := 45) (w' := [zO _ [_, _, _, _, _, _, _, _, _, _, _], zO _ [_, _, _, _, _, _, _], zA _ _ _, zA _ _ _, zA _ _ _, zO _ [_, _], zA _ _ _, zO _ [_, _], zA _ _ _]) (k_X3_start s y l w (by omega) (by omega) hF) ok_X3_start lm_X3_25 dX3_find_42 rfl [0, 1, 2, 3, 4, 5, 6, 7, 8] rfl (by decide) rfl rfl rfl rfl rfl (by decide) (Nat.le_of_ble_eq_true rfl) rfl (by decide) (by decide) rfl rfl rfl ?_
        show Wa _ _ _ _ _ _ _ _ [] (wLy s (staL s y l w)) _ _
        refine wa_iconst (pc' := 46) dX3_find_45 rfl ?_
        refine wa_istore (pc' := 48) (ls' := [(6, _), (5, _), (0, _), (1, _), (2, _), (3, _), (4, _)]) dX3_find_46 rfl (by decide) rfl ?_
        first | rw [if_pos (show (0 ≤ l ∧ l < s.2.2.2.1) ∧ (kd = 0 ∨ kd = 1) ∧ (0 ≤ p ∧ p ≤ 200) by omega)] | rw [if_neg (show ¬ ((0 ≤ l ∧ l < s.2.2.2.1) ∧ (kd = 0 ∨ kd = 1) ∧ (0 ≤ p ∧ p ≤ 200)) by omega)]
        exact l_find s hc hs hT hF hL l p kd w hp hk _ 201 0 _ _ (by omega) (by omega) (fun _ => ⟨by omega, by omega, staL_P hq (by omega) hw h0⟩) rfl
      · refine wa_iload_n (pc' := 21) dX3_find_20 rfl rfl rfl ?_
        refine wa_if_lt (tgt := 35) (pc' := 24) dX3_find_21 (by decide) rfl (by omega) (fun c21 => ?_) (fun c21 => ?_)
        · refine wa_iconst (pc' := 36) dX3_find_35 rfl ?_
          refine wa_istore (pc' := 38) (ls' := [(5, _), (0, _), (1, _), (2, _), (3, _), (4, _)]) dX3_find_36 rfl (by decide) rfl ?_
          refine wa_aload_n (pc' := 39) dX3_find_38 rfl rfl rfl ?_
          refine wa_iload_n (pc' := 40) dX3_find_39 rfl rfl rfl ?_
          refine wa_iload (pc' := 42) dX3_find_40 rfl rfl ?_
          refine wa_dV (pc' := 45) (w' := [zO _ [_, _, _, _, _, _, _, _, _, _, _], zO _ [_, _, _, _, _, _, _], zA _ _ _, zA _ _ _, zA _ _ _, zO _ [_, _], zA _ _ _, zO _ [_, _], zA _ _ _]) (k_X3_start s y l w (by omega) (by omega) hF) ok_X3_start lm_X3_25 dX3_find_42 rfl [0, 1, 2, 3, 4, 5, 6, 7, 8] rfl (by decide) rfl rfl rfl rfl rfl (by decide) (Nat.le_of_ble_eq_true rfl) rfl (by decide) (by decide) rfl rfl rfl ?_
          show Wa _ _ _ _ _ _ _ _ [] (wLy s (staL s y l w)) _ _
          refine wa_iconst (pc' := 46) dX3_find_45 rfl ?_
          refine wa_istore (pc' := 48) (ls' := [(6, _), (5, _), (0, _), (1, _), (2, _), (3, _), (4, _)]) dX3_find_46 rfl (by decide) rfl ?_
          first | rw [if_pos (show (0 ≤ l ∧ l < s.2.2.2.1) ∧ (kd = 0 ∨ kd = 1) ∧ (0 ≤ p ∧ p ≤ 200) by omega)] | rw [if_neg (show ¬ ((0 ≤ l ∧ l < s.2.2.2.1) ∧ (kd = 0 ∨ kd = 1) ∧ (0 ≤ p ∧ p ≤ 200)) by omega)]
          exact l_find s hc hs hT hF hL l p kd w hp hk _ 201 0 _ _ (by omega) (by omega) (fun _ => ⟨by omega, by omega, staL_P hq (by omega) hw h0⟩) rfl
        · refine wa_iload_n (pc' := 25) dX3_find_24 rfl rfl rfl ?_
          refine wa_sipush (pc' := 28) dX3_find_25 rfl rfl ?_
          refine wa_icmp_gt (tgt := 35) (pc' := 31) dX3_find_28 (by decide) rfl (by omega) (by omega) (fun c28 => ?_) (fun c28 => ?_)
          · refine wa_iconst (pc' := 36) dX3_find_35 rfl ?_
            refine wa_istore (pc' := 38) (ls' := [(5, _), (0, _), (1, _), (2, _), (3, _), (4, _)]) dX3_find_36 rfl (by decide) rfl ?_
            refine wa_aload_n (pc' := 39) dX3_find_38 rfl rfl rfl ?_
            refine wa_iload_n (pc' := 40) dX3_find_39 rfl rfl rfl ?_
            refine wa_iload (pc' := 42) dX3_find_40 rfl rfl ?_
            refine wa_dV (pc' := 45) (w' := [zO _ [_, _, _, _, _, _, _, _, _, _, _], zO _ [_, _, _, _, _, _, _], zA _ _ _, zA _ _ _, zA _ _ _, zO _ [_, _], zA _ _ _, zO _ [_, _], zA _ _ _]) (k_X3_start s y l w (by omega) (by omega) hF) ok_X3_start lm_X3_25 dX3_find_42 rfl [0, 1, 2, 3, 4, 5, 6, 7, 8] rfl (by decide) rfl rfl rfl rfl rfl (by decide) (Nat.le_of_ble_eq_true rfl) rfl (by decide) (by decide) rfl rfl rfl ?_
            show Wa _ _ _ _ _ _ _ _ [] (wLy s (staL s y l w)) _ _
            refine wa_iconst (pc' := 46) dX3_find_45 rfl ?_
            refine wa_istore (pc' := 48) (ls' := [(6, _), (5, _), (0, _), (1, _), (2, _), (3, _), (4, _)]) dX3_find_46 rfl (by decide) rfl ?_
            first | rw [if_pos (show (0 ≤ l ∧ l < s.2.2.2.1) ∧ (kd = 0 ∨ kd = 1) ∧ (0 ≤ p ∧ p ≤ 200) by omega)] | rw [if_neg (show ¬ ((0 ≤ l ∧ l < s.2.2.2.1) ∧ (kd = 0 ∨ kd = 1) ∧ (0 ≤ p ∧ p ≤ 200)) by omega)]
            exact l_find s hc hs hT hF hL l p kd w hp hk _ 201 0 _ _ (by omega) (by omega) (fun _ => ⟨by omega, by omega, staL_P hq (by omega) hw h0⟩) rfl
          · refine wa_iconst (pc' := 32) dX3_find_31 rfl ?_
            refine wa_goto (pc' := 36) dX3_find_32 (by decide) ?_
            refine wa_istore (pc' := 38) (ls' := [(5, _), (0, _), (1, _), (2, _), (3, _), (4, _)]) dX3_find_36 rfl (by decide) rfl ?_
            refine wa_aload_n (pc' := 39) dX3_find_38 rfl rfl rfl ?_
            refine wa_iload_n (pc' := 40) dX3_find_39 rfl rfl rfl ?_
            refine wa_iload (pc' := 42) dX3_find_40 rfl rfl ?_
            refine wa_dV (pc' := 45) (w' := [zO _ [_, _, _, _, _, _, _, _, _, _, _], zO _ [_, _, _, _, _, _, _], zA _ _ _, zA _ _ _, zA _ _ _, zO _ [_, _], zA _ _ _, zO _ [_, _], zA _ _ _]) (k_X3_start s y l w (by omega) (by omega) hF) ok_X3_start lm_X3_25 dX3_find_42 rfl [0, 1, 2, 3, 4, 5, 6, 7, 8] rfl (by decide) rfl rfl rfl rfl rfl (by decide) (Nat.le_of_ble_eq_true rfl) rfl (by decide) (by decide) rfl rfl rfl ?_
            show Wa _ _ _ _ _ _ _ _ [] (wLy s (staL s y l w)) _ _
            refine wa_iconst (pc' := 46) dX3_find_45 rfl ?_
            refine wa_istore (pc' := 48) (ls' := [(6, _), (5, _), (0, _), (1, _), (2, _), (3, _), (4, _)]) dX3_find_46 rfl (by decide) rfl ?_
            first | rw [if_pos (show (0 ≤ l ∧ l < s.2.2.2.1) ∧ (kd = 0 ∨ kd = 1) ∧ (0 ≤ p ∧ p ≤ 200) by omega)] | rw [if_neg (show ¬ ((0 ≤ l ∧ l < s.2.2.2.1) ∧ (kd = 0 ∨ kd = 1) ∧ (0 ≤ p ∧ p ≤ 200)) by omega)]
            exact l_find s hc hs hT hF hL l p kd w hp hk _ 201 0 _ _ (by omega) (by omega) (fun _ => ⟨by omega, by omega, staL_P hq (by omega) hw h0⟩) rfl

