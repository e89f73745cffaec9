/-! Layout -/
/-- rows of chords and of lyrics; line, width, begin, chord, end, endChord, endChordSize, endLyricSize -/
abbrev zLy : Type := zRw × zRw × Int × Int × Int × Int × Int × Int × Int × Int
abbrev wLy (s : zSh) (y : zLy) : List zE := [zO 1 [zR 1, zR 5, zR 7, zI y.2.2.1, zI y.2.2.2.1, zI y.2.2.2.2.1, zI y.2.2.2.2.2.1, zI y.2.2.2.2.2.2.1, zI y.2.2.2.2.2.2.2.1, zI y.2.2.2.2.2.2.2.2.1, zI y.2.2.2.2.2.2.2.2.2], zO 4 [zR 2, zR 3, zI s.2.2.2.1, zR 4, zI s.2.2.2.2.1, zI s.2.2.2.2.2.1, zI s.2.2.2.2.2.2], zA 1 200 s.1, zA 0 202 s.2.1, zA 0 200 s.2.2.1, zO 3 [zR 6, zI y.1.1], zA 1 680 y.1.2, zO 3 [zR 8, zI y.2.1.1], zA 1 680 y.2.1.2]
/-- the bounds of a sheet's chords: what their names need -/
def okN (s : zSh) : Prop := ∀ i : Int, 0 ≤ i → i < s.2.2.2.2.1 → (-8 ≤ s.2.2.1 (i * 5 + 2) ∧ s.2.2.1 (i * 5 + 2) ≤ 12) ∧ (0 ≤ s.2.2.1 (i * 5 + 3) ∧ s.2.2.1 (i * 5 + 3) < 10) ∧ (s.2.2.1 (i * 5 + 4) = 100 ∨ (-8 ≤ s.2.2.1 (i * 5 + 4) ∧ s.2.2.1 (i * 5 + 4) ≤ 12))
theorem noteL_n {p : Int} (h : -8 ≤ p ∧ p ≤ 12) : (noteL p).length ≤ 2 := by
  have h2 : ∀ k : Nat, k < 21 → (noteL ((k : Int) - 8)).length ≤ 2 := by decide
  have := h2 (p + 8).toNat (by omega)
  rwa [show (((p + 8).toNat : Nat) : Int) - 8 = p by omega] at this
theorem zby_n {q : Int} (h : 0 ≤ q ∧ q < 10) : (zBytes.getD q.toNat []).length ≤ 6 := by
  have h2 : ∀ k : Nat, k < 10 → (zBytes.getD k []).length ≤ 6 := by decide
  exact h2 _ (by omega)
theorem nameL_n {r q b : Int} (hr : -8 ≤ r ∧ r ≤ 12) (hq : 0 ≤ q ∧ q < 10) (hb : b = 100 ∨ (-8 ≤ b ∧ b ≤ 12)) : (nameL r q b).length ≤ 11 := by
  have h1 := noteL_n hr
  have h2 := zby_n hq
  unfold nameL
  rw [List.length_append, List.length_append]
  split
  · simp only [List.length_nil]; omega
  · have h3 := noteL_n (p := b) (by omega)
    rw [List.length_cons]
    omega
def isLt (s : zSh) (l i : Int) : Int := if ltr s.1 s.2.1 l i = -1 ∨ ltr s.1 s.2.1 l i = 32 then 0 else 1
def inB (s : zSh) (y : zLy) (i : Int) : Int := if y.2.2.2.2.1 < i ∧ isLt s y.2.2.1 i = 1 ∧ ltr s.1 s.2.1 y.2.2.1 (i - 1) = 32 then 1 else 0
def offF (y : zLy) : Int := if y.1.1 ≤ y.2.2.2.1 ∧ y.2.1.1 ≤ y.2.2.2.1 then 1 else 0
def offE (y : zLy) (i : Int) : zLy := if offF y = 1 ∨ y.2.2.2.2.2.2.1 = -1 then (y.1, y.2.1, y.2.2.1, y.2.2.2.1, y.2.2.2.2.1, y.2.2.2.2.2.1, i, y.2.2.2.2.2.1, y.1.1, y.2.1.1) else y
def rC (r : zRw) (k : Int) : zRw := (if 0 ≤ k ∧ k < r.1 then k else r.1, r.2)
def cutB (y : zLy) : zLy := (rC y.1 y.2.2.2.2.2.2.2.2.1, rC y.2.1 y.2.2.2.2.2.2.2.2.2, y.2.2.1, y.2.2.2.1, y.2.2.2.2.1, y.2.2.2.2.2.1, y.2.2.2.2.2.2.1, y.2.2.2.2.2.2.2.1, y.2.2.2.2.2.2.2.2.1, y.2.2.2.2.2.2.2.2.2)
def plB (y : zLy) (f : Int) : zRw := if 0 < y.1.1 then rL y.2.1 (List.replicate (y.1.1 + 1 - y.2.1.1).toNat f) else y.2.1
def plO (s : zSh) (f : Int) (y : zLy) : zLy := (rL (rL y.1 (List.replicate ((plB y f).1 - y.1.1).toNat 32)) (nameL (s.2.2.1 (y.2.2.2.2.2.1 * 5 + 2)) (s.2.2.1 (y.2.2.2.2.2.1 * 5 + 3)) (s.2.2.1 (y.2.2.2.2.2.1 * 5 + 4))), plB y f, y.2.2.1, y.2.2.2.1, y.2.2.2.2.1, y.2.2.2.2.2.1 + 1, y.2.2.2.2.2.2.1, y.2.2.2.2.2.2.2.1, y.2.2.2.2.2.2.2.2.1, y.2.2.2.2.2.2.2.2.2)
def plC (s : zSh) (i f : Int) : Nat → zLy → zLy
  | 0, y => y
  | m + 1, y => if y.2.2.2.2.2.1 < s.2.2.2.2.1 ∧ s.2.2.1 (y.2.2.2.2.2.1 * 5 + 0) = y.2.2.1 ∧ s.2.2.1 (y.2.2.2.2.2.1 * 5 + 1) = i then plC s i f m (plO s f y) else y
def plcF (s : zSh) (y : zLy) (i : Int) : Int := if isLt s y.2.2.1 (i - 1) = 1 ∧ isLt s y.2.2.1 i = 1 then 45 else 32
def plc (s : zSh) (y : zLy) (i : Int) : zLy := plC s i (plcF s y i) s.2.2.2.2.1.toNat y
def layS (s : zSh) (y : zLy) (i : Int) : zLy := ((plc s y i).1, rA (plc s y i).2.1 (ltr s.1 s.2.1 y.2.2.1 i), (plc s y i).2.2.1, (plc s y i).2.2.2.1, (plc s y i).2.2.2.2.1, (plc s y i).2.2.2.2.2.1, (plc s y i).2.2.2.2.2.2.1, (plc s y i).2.2.2.2.2.2.2.1, (plc s y i).2.2.2.2.2.2.2.2.1, (plc s y i).2.2.2.2.2.2.2.2.2)
def layF (s : zSh) (len g : Int) (y : zLy) : zLy := cutB (if g = 0 then y else offE (plc s y len) len)
def layK (s : zSh) (len : Int) : Nat → Int → Int → zLy → zLy
  | 0, _, g, y => layF s len g y
  | m + 1, i, g, y =>
    if g = 0 ∨ len ≤ i then layF s len g y
    else if inB s y i = 0 then layK s len m (i + 1) 1 (layS s y i)
    else if offF y = 1 then layK s len m (i + 1) 1 (layS s (offE y i) i)
    else layK s len m (i + 1) 0 (offE y i)
def lay0 (y : zLy) : zLy := (rC y.1 0, rC y.2.1 0, y.2.2.1, y.2.2.2.1, max y.2.2.2.2.2.2.1 0, y.2.2.2.2.2.2.2.1, -1, y.2.2.2.2.2.2.2.1, y.2.2.2.2.2.2.2.2.1, y.2.2.2.2.2.2.2.2.2)
def layN (s : zSh) (y : zLy) : zLy := if s.2.1 (y.2.2.1 + 1) - s.2.1 y.2.2.1 ≤ y.2.2.2.2.2.2.1 then y else layK s (s.2.1 (y.2.2.1 + 1) - s.2.1 y.2.2.1) 201 (max y.2.2.2.2.2.2.1 0) 1 (lay0 y)
def okY (s : zSh) (i : Int) (y : zLy) : Prop := (0 ≤ y.1.1 ∧ y.1.1 ≤ i + 12 * y.2.2.2.2.2.1) ∧ (0 ≤ y.2.1.1 ∧ y.2.1.1 ≤ i + 12 * y.2.2.2.2.2.1) ∧ (0 ≤ y.2.2.2.2.2.1 ∧ y.2.2.2.2.2.1 ≤ s.2.2.2.2.1) ∧ (0 ≤ y.2.2.2.2.2.2.2.2.1 ∧ y.2.2.2.2.2.2.2.2.1 ≤ 680) ∧ (0 ≤ y.2.2.2.2.2.2.2.2.2 ∧ y.2.2.2.2.2.2.2.2.2 ≤ 680) ∧ (-1 ≤ y.2.2.2.2.2.2.1 ∧ y.2.2.2.2.2.2.1 ≤ 200) ∧ (0 ≤ y.2.2.2.2.1 ∧ y.2.2.2.2.1 ≤ 200) ∧ (0 ≤ y.2.2.2.2.2.2.2.1 ∧ y.2.2.2.2.2.2.2.1 ≤ s.2.2.2.2.1) ∧ (0 ≤ y.2.2.1 ∧ y.2.2.1 ≤ 200) ∧ zin y.2.2.2.1
theorem rL_rep (r : zRw) (n : Nat) (c : Int) : (rL r (List.replicate n c)).1 = r.1 + n := by rw [rL_len, List.length_replicate]
theorem plB_n {y : zLy} (f : Int) (h : 0 ≤ y.2.1.1) : (plB y f).1 = if 0 < y.1.1 then max y.2.1.1 (y.1.1 + 1) else y.2.1.1 := by
  unfold plB
  split
  · rw [rL_rep]; omega
  · rfl
theorem plO_ok {s : zSh} {i f : Int} {y : zLy} (h : okY s i y) (hs : okN s) (hc : y.2.2.2.2.2.1 < s.2.2.2.2.1) : okY s i (plO s f y) := by
  obtain ⟨h1, h2, h3, h4⟩ := h
  obtain ⟨n1, n2, n3⟩ := hs y.2.2.2.2.2.1 h3.1 hc
  have hn := nameL_n n1 n2 n3
  have hb := plB_n f h2.1
  have hA : (plO s f y).1.1 = y.1.1 + ((plB y f).1 - y.1.1).toNat + (nameL (s.2.2.1 (y.2.2.2.2.2.1 * 5 + 2)) (s.2.2.1 (y.2.2.2.2.2.1 * 5 + 3)) (s.2.2.1 (y.2.2.2.2.2.1 * 5 + 4))).length := by
    show (rL (rL _ _) _).1 = _
    rw [rL_len, rL_rep]
  have hC : (plO s f y).2.2.2.2.2.1 = y.2.2.2.2.2.1 + 1 := rfl
  have hB : (plO s f y).2.1.1 = (plB y f).1 := rfl
  refine ⟨?_, ?_, ?_, h4⟩
  · rw [hA, hC]
    split at hb <;> omega
  · rw [hB, hC]
    split at hb <;> omega
  · rw [hC]
    omega
theorem plC_ok {s : zSh} {i f : Int} (hs : okN s) : ∀ (m : Nat) (y : zLy), okY s i y → okY s i (plC s i f m y)
  | 0, y, h => h
  | m + 1, y, h => by
    rw [plC]
    split
    · exact plC_ok hs m _ (plO_ok h hs (by omega))
    · exact h
theorem plc_ok {s : zSh} {i : Int} {y : zLy} (hs : okN s) (h : okY s i y) : okY s i (plc s y i) := plC_ok hs _ _ h
theorem offE_ok {s : zSh} {i k : Int} {y : zLy} (h : okY s i y) (hi : i ≤ 200) (hc : s.2.2.2.2.1 ≤ 40) (hk : 0 ≤ k ∧ k ≤ 200) : okY s i (offE y k) := by
  unfold offE
  split
  · obtain ⟨h1, h2, h3, h4, h5, h6, h7, h8, h9⟩ := h
    exact ⟨h1, h2, h3, ⟨h1.1, by show y.1.1 ≤ 680; omega⟩, ⟨h2.1, by show y.2.1.1 ≤ 680; omega⟩, ⟨by show -1 ≤ k; omega, hk.2⟩, h7, h3, h9⟩
  · exact h
theorem layS_ok {s : zSh} {i : Int} {y : zLy} (hs : okN s) (h : okY s i y) : okY s (i + 1) (layS s y i) := by
  obtain ⟨h1, h2, h3, h4⟩ := plc_ok hs h
  exact ⟨⟨h1.1, by show (plc s y i).1.1 ≤ _ + 12 * (plc s y i).2.2.2.2.2.1; omega⟩, ⟨by show 0 ≤ (plc s y i).2.1.1 + 1; omega, by show (plc s y i).2.1.1 + 1 ≤ _ + 12 * (plc s y i).2.2.2.2.2.1; omega⟩, h3, h4⟩
theorem ltr_b {s : zSh} (hT : ∀ k : Int, 0 ≤ k → k ≤ 201 → 0 ≤ s.2.1 k ∧ s.2.1 k ≤ 200) (hL : ∀ j : Int, 0 ≤ j → j < 200 → 0 ≤ s.1 j ∧ s.1 j < 65536) (l k : Int) (hl : 0 ≤ l ∧ l ≤ 200) : -1 ≤ ltr s.1 s.2.1 l k ∧ ltr s.1 s.2.1 l k < 65536 := by
  have t1 := hT l (by omega) (by omega)
  have t2 := hT (l + 1) (by omega) (by omega)
  unfold ltr
  split
  · have := hL (s.2.1 l + k) (by omega) (by omega)
    omega
  · omega
set_option maxRecDepth 10000 in
set_option maxHeartbeats 1000000 in
theorem k_X3_start (s : zSh) (y : zLy) (l w : Int) (hl : zin l) (hc : 0 ≤ s.2.2.2.2.1 ∧ s.2.2.2.2.1 ≤ 40) (hF : ∀ j : Int, 0 ≤ j → j < 200 → -1000 ≤ s.2.2.1 j ∧ s.2.2.1 j ≤ 1000) : zMet q_X3_start 3 0 0 [zR 0, zI l, zI w] (wLy s y) (zD none (wLy s (y.1, y.2.1, l, w, y.2.2.2.2.1, y.2.2.2.2.2.1, -1, cUT s.2.2.1 l (-1) s.2.2.2.2.1.toNat 0, y.2.2.2.2.2.2.2.2.1, y.2.2.2.2.2.2.2.2.2))) := by
  refine z_introF (ls := [(0, _), (1, _), (2, _)]) (by decide +kernel) rfl (fun _ _ => rfl) (fun _ _ => Nat.le_of_ble_eq_true rfl) ?_
  refine wa_aload_n (pc' := 1) dX3_start_0 rfl rfl rfl ?_
  refine wa_iload_n (pc' := 2) dX3_start_1 rfl rfl rfl ?_
  refine wa_putfield (pc' := 5) (j := 3) (w' := [zO _ [_, _, _, _, _, _, _, _, _, _, _], _, _, _, _, _, _, _, _]) zc_X3 lk_X3_39 dX3_start_2 rfl (by decide) rfl rfl (Nat.le_of_ble_eq_true rfl) True.intro rfl ?_
  refine wa_aload_n (pc' := 6) dX3_start_5 rfl rfl rfl ?_
  refine wa_iload_n (pc' := 7) dX3_start_6 rfl rfl rfl ?_
  refine wa_putfield (pc' := 10) (j := 4) (w' := [zO _ [_, _, _, _, _, _, _, _, _, _, _], _, _, _, _, _, _, _, _]) zc_X3 lk_X3_43 dX3_start_7 rfl (by decide) rfl rfl (Nat.le_of_ble_eq_true rfl) True.intro rfl ?_
  refine wa_aload_n (pc' := 11) dX3_start_10 rfl rfl rfl ?_
  refine wa_iconst (pc' := 12) dX3_start_11 rfl ?_
  refine wa_putfield (pc' := 15) (j := 7) (w' := [zO _ [_, _, _, _, _, _, _, _, _, _, _], _, _, _, _, _, _, _, _]) zc_X3 lk_X3_46 dX3_start_12 rfl (by decide) rfl rfl (Nat.le_of_ble_eq_true rfl) True.intro rfl ?_
  refine wa_aload_n (pc' := 16) dX3_start_15 rfl rfl rfl ?_
  refine wa_aload_n (pc' := 17) dX3_start_16 rfl rfl rfl ?_
  refine wa_getfield (pc' := 20) (j := 0) zc_X3 lk_X3_21 dX3_start_17 rfl (by decide) rfl rfl ?_
  refine wa_iload_n (pc' := 21) dX3_start_20 rfl rfl rfl ?_
  refine wa_iconst (pc' := 22) dX3_start_21 rfl ?_
  refine wa_rV (pc' := 25) (k_X8_countUpTo s.1 s.2.1 s.2.2.1 s.2.2.2.1 s.2.2.2.2.1 s.2.2.2.2.2.1 s.2.2.2.2.2.2 l (-1) (by omega) (by omega) (by omega) hF) ok_X8_countUpTo lm_X3_49 dX3_start_22 rfl [1, 2, 3, 4] rfl (by decide) rfl rfl rfl rfl rfl (by decide) (Nat.le_of_ble_eq_true rfl) rfl (by decide) (by decide) rfl ?_
  refine wa_putfield (pc' := 28) (j := 8) (w' := [zO _ [_, _, _, _, _, _, _, _, _, _, _], _, _, _, _, _, _, _, _]) zc_X3 lk_X3_53 dX3_start_25 rfl (by decide) rfl rfl (Nat.le_of_ble_eq_true rfl) True.intro rfl ?_
  refine wa_vret dX3_start_28 rfl (by decide) (by decide) ?_
  exact ⟨rfl, rfl⟩

set_option maxRecDepth 10000 in
set_option maxHeartbeats 1000000 in
theorem k_X3_isLetter (s : zSh) (y : zLy) (k : Int) (hl : 0 ≤ y.2.2.1 ∧ y.2.2.1 ≤ 200) (hk : -1000 ≤ k ∧ k ≤ 1000) (hT : ∀ k : Int, 0 ≤ k → k ≤ 201 → 0 ≤ s.2.1 k ∧ s.2.1 k ≤ 200) (hL : ∀ j : Int, 0 ≤ j → j < 200 → 0 ≤ s.1 j ∧ s.1 j < 65536) : zMet q_X3_isLetter 2 0 0 [zR 0, zI k] (wLy s y) (zD (some (zI (isLt s y.2.2.1 k))) (wLy s y)) := by
  refine z_introF (ls := [(0, _), (1, _)]) (by decide +kernel) rfl (fun _ _ => rfl) (fun _ _ => Nat.le_of_ble_eq_true rfl) ?_
  have g0 := ltr_b hT hL y.2.2.1 k hl
  refine wa_aload_n (pc' := 1) dX3_isLetter_0 rfl rfl rfl ?_
  refine wa_getfield (pc' := 4) (j := 0) zc_X3 lk_X3_21 dX3_isLetter_1 rfl (by decide) rfl rfl ?_
  refine wa_aload_n (pc' := 5) dX3_isLetter_4 rfl rfl rfl ?_
  refine wa_getfield (pc' := 8) (j := 3) zc_X3 lk_X3_39 dX3_isLetter_5 rfl (by decide) rfl rfl ?_
  refine wa_iload_n (pc' := 9) dX3_isLetter_8 rfl rfl rfl ?_
  refine wa_rV (pc' := 12) (k_X8_letterAt s.1 s.2.1 s.2.2.1 s.2.2.2.1 s.2.2.2.2.1 s.2.2.2.2.2.1 s.2.2.2.2.2.2 y.2.2.1 k (by omega) (by omega) hT) ok_X8_letterAt lm_X3_84 dX3_isLetter_9 rfl [1, 2, 3, 4] rfl (by decide) rfl rfl rfl rfl rfl (by decide) (Nat.le_of_ble_eq_true rfl) rfl (by decide) (by decide) rfl ?_
  show Wa _ _ _ _ _ _ _ _ [zI (ltr s.1 s.2.1 y.2.2.1 (k))] _ _ _
  refine wa_istore_n (pc' := 13) (ls' := [(2, _), (0, _), (1, _)]) dX3_isLetter_12 rfl rfl (by decide) rfl ?_
  refine wa_iload_n (pc' := 14) dX3_isLetter_13 rfl rfl rfl ?_
  refine wa_iconst (pc' := 15) dX3_isLetter_14 rfl ?_
  refine wa_icmp_eq (tgt := 28) (pc' := 18) dX3_isLetter_15 (by decide) rfl (by omega) (by omega) (fun c15 => ?_) (fun c15 => ?_)
  · refine wa_iconst (pc' := 29) dX3_isLetter_28 rfl ?_
    refine wa_zret dX3_isLetter_29 rfl (by decide) (by decide) (by omega) ?_
    exact zD_i (by unfold isLt; first | rw [if_pos (by omega)] | rw [if_neg (by omega)]) rfl
  · refine wa_iload_n (pc' := 19) dX3_isLetter_18 rfl rfl rfl ?_
    refine wa_bipush (pc' := 21) dX3_isLetter_19 rfl rfl ?_
    refine wa_icmp_eq (tgt := 28) (pc' := 24) dX3_isLetter_21 (by decide) rfl (by omega) (by omega) (fun c21 => ?_) (fun c21 => ?_)
    · refine wa_iconst (pc' := 29) dX3_isLetter_28 rfl ?_
      refine wa_zret dX3_isLetter_29 rfl (by decide) (by decide) (by omega) ?_
      exact zD_i (by unfold isLt; first | rw [if_pos (by omega)] | rw [if_neg (by omega)]) rfl
    · refine wa_iconst (pc' := 25) dX3_isLetter_24 rfl ?_
      refine wa_goto (pc' := 29) dX3_isLetter_25 (by decide) ?_
      refine wa_zret dX3_isLetter_29 rfl (by decide) (by decide) (by omega) ?_
      exact zD_i (by unfold isLt; first | rw [if_pos (by omega)] | rw [if_neg (by omega)]) rfl

set_option maxRecDepth 10000 in
set_option maxHeartbeats 1000000 in
theorem k_X3_isInnerBreak (s : zSh) (y : zLy) (k : Int) (hl : 0 ≤ y.2.2.1 ∧ y.2.2.1 ≤ 200) (hk : -900 ≤ k ∧ k ≤ 900) (hb : zin y.2.2.2.2.1) (hT : ∀ k : Int, 0 ≤ k → k ≤ 201 → 0 ≤ s.2.1 k ∧ s.2.1 k ≤ 200) (hL : ∀ j : Int, 0 ≤ j → j < 200 → 0 ≤ s.1 j ∧ s.1 j < 65536) : zMet q_X3_isInnerBreak 3 0 0 [zR 0, zI k] (wLy s y) (zD (some (zI (inB s y k))) (wLy s y)) := by
  refine z_introF (ls := [(0, _), (1, _)]) (by decide +kernel) rfl (fun _ _ => rfl) (fun _ _ => Nat.le_of_ble_eq_true rfl) ?_
  have g0 := ltr_b hT hL y.2.2.1 (k - 1) hl
  have g1 : isLt s y.2.2.1 k = 0 ∨ isLt s y.2.2.1 k = 1 := by unfold isLt; split <;> omega
  refine wa_iload_n (pc' := 1) dX3_isInnerBreak_0 rfl rfl rfl ?_
  refine wa_aload_n (pc' := 2) dX3_isInnerBreak_1 rfl rfl rfl ?_
  refine wa_getfield (pc' := 5) (j := 5) zc_X3 lk_X3_65 dX3_isInnerBreak_2 rfl (by decide) rfl rfl ?_
  refine wa_icmp_le (tgt := 39) (pc' := 8) dX3_isInnerBreak_5 (by decide) rfl (by omega) (by omega) (fun c5 => ?_) (fun c5 => ?_)
  · refine wa_iconst (pc' := 40) dX3_isInnerBreak_39 rfl ?_
    refine wa_zret dX3_isInnerBreak_40 rfl (by decide) (by decide) (by omega) ?_
    exact zD_i (by unfold inB; first | rw [if_pos (by omega)] | rw [if_neg (by omega)]) rfl
  · refine wa_aload_n (pc' := 9) dX3_isInnerBreak_8 rfl rfl rfl ?_
    refine wa_iload_n (pc' := 10) dX3_isInnerBreak_9 rfl rfl rfl ?_
    refine wa_rV (pc' := 13) (k_X3_isLetter s y k (by omega) (by omega) hT hL) ok_X3_isLetter lm_X3_94 dX3_isInnerBreak_10 rfl [0, 1, 2, 3, 4, 5, 6, 7, 8] rfl (by decide) rfl rfl rfl rfl rfl (by decide) (Nat.le_of_ble_eq_true rfl) rfl (by decide) (by decide) rfl ?_
    show Wa _ _ _ _ _ _ _ _ [zI (isLt s y.2.2.1 k)] _ _ _
    refine wa_if_eq (tgt := 39) (pc' := 16) dX3_isInnerBreak_13 (by decide) rfl (by omega) (fun c13 => ?_) (fun c13 => ?_)
    · refine wa_iconst (pc' := 40) dX3_isInnerBreak_39 rfl ?_
      refine wa_zret dX3_isInnerBreak_40 rfl (by decide) (by decide) (by omega) ?_
      exact zD_i (by unfold inB; first | rw [if_pos (by omega)] | rw [if_neg (by omega)]) rfl
    · refine wa_aload_n (pc' := 17) dX3_isInnerBreak_16 rfl rfl rfl ?_
      refine wa_getfield (pc' := 20) (j := 0) zc_X3 lk_X3_21 dX3_isInnerBreak_17 rfl (by decide) rfl rfl ?_
      refine wa_aload_n (pc' := 21) dX3_isInnerBreak_20 rfl rfl rfl ?_
      refine wa_getfield (pc' := 24) (j := 3) zc_X3 lk_X3_39 dX3_isInnerBreak_21 rfl (by decide) rfl rfl ?_
      refine wa_iload_n (pc' := 25) dX3_isInnerBreak_24 rfl rfl rfl ?_
      refine wa_iconst (pc' := 26) dX3_isInnerBreak_25 rfl ?_
      refine wa_isub (pc' := 27) dX3_isInnerBreak_26 rfl ?_
      refine wa_rV (pc' := 30) (k_X8_letterAt s.1 s.2.1 s.2.2.1 s.2.2.2.1 s.2.2.2.2.1 s.2.2.2.2.2.1 s.2.2.2.2.2.2 y.2.2.1 (k - 1) (by omega) (by omega) hT) ok_X8_letterAt lm_X3_84 dX3_isInnerBreak_27 rfl [1, 2, 3, 4] rfl (by decide) rfl rfl rfl rfl rfl (by decide) (Nat.le_of_ble_eq_true rfl) rfl (by decide) (by decide) rfl ?_
      show Wa _ _ _ _ _ _ _ _ [zI (ltr s.1 s.2.1 y.2.2.1 (k - 1))] _ _ _
      refine wa_bipush (pc' := 32) dX3_isInnerBreak_30 rfl rfl ?_
      refine wa_icmp_ne (tgt := 39) (pc' := 35) dX3_isInnerBreak_32 (by decide) rfl (by omega) (by omega) (fun c32 => ?_) (fun c32 => ?_)
      · refine wa_iconst (pc' := 40) dX3_isInnerBreak_39 rfl ?_
        refine wa_zret dX3_isInnerBreak_40 rfl (by decide) (by decide) (by omega) ?_
        exact zD_i (by unfold inB; first | rw [if_pos (by omega)] | rw [if_neg (by omega)]) rfl
      · refine wa_iconst (pc' := 36) dX3_isInnerBreak_35 rfl ?_
        refine wa_goto (pc' := 40) dX3_isInnerBreak_36 (by decide) ?_
        refine wa_zret dX3_isInnerBreak_40 rfl (by decide) (by decide) (by omega) ?_
        exact zD_i (by unfold inB; first | rw [if_pos (by omega)] | rw [if_neg (by omega)]) rfl

set_option maxRecDepth 10000 in
set_option maxHeartbeats 1000000 in
theorem k_X3_offerEnd (s : zSh) (y : zLy) (k : Int) (hw : zin y.2.2.2.1) (ha : zin y.1.1) (hb : zin y.2.1.1) (he : zin y.2.2.2.2.2.2.1) : zMet q_X3_offerEnd 1 0 0 [zR 0, zI k] (wLy s y) (zD (some (zI (offF y))) (wLy s (offE y k))) := by
  refine z_introF (ls := [(0, _), (1, _)]) (by decide +kernel) rfl (fun _ _ => rfl) (fun _ _ => Nat.le_of_ble_eq_true rfl) ?_
  refine wa_aload_n (pc' := 1) dX3_offerEnd_0 rfl rfl rfl ?_
  refine wa_getfield (pc' := 4) (j := 1) zc_X3 lk_X3_12 dX3_offerEnd_1 rfl (by decide) rfl rfl ?_
  refine wa_rV (pc' := 7) (k_X7_size y.1) ok_X7_size lm_X3_97 dX3_offerEnd_4 rfl [5, 6] rfl (by decide) rfl rfl rfl rfl rfl (by decide) (Nat.le_of_ble_eq_true rfl) rfl (by decide) (by decide) rfl ?_
  refine wa_aload_n (pc' := 8) dX3_offerEnd_7 rfl rfl rfl ?_
  refine wa_getfield (pc' := 11) (j := 4) zc_X3 lk_X3_43 dX3_offerEnd_8 rfl (by decide) rfl rfl ?_
  refine wa_icmp_gt (tgt := 32) (pc' := 14) dX3_offerEnd_11 (by decide) rfl (by omega) (by omega) (fun c11 => ?_) (fun c11 => ?_)
  · refine wa_iconst (pc' := 33) dX3_offerEnd_32 rfl ?_
    refine wa_istore_n (pc' := 34) (ls' := [(2, _), (0, _), (1, _)]) dX3_offerEnd_33 rfl rfl (by decide) rfl ?_
    refine wa_iload_n (pc' := 35) dX3_offerEnd_34 rfl rfl rfl ?_
    refine wa_if_ne (tgt := 46) (pc' := 38) dX3_offerEnd_35 (by decide) rfl (by omega) (fun c35 => ?_) (fun c35 => ?_)
    · refine wa_aload_n (pc' := 47) dX3_offerEnd_46 rfl rfl rfl ?_
      refine wa_iload_n (pc' := 48) dX3_offerEnd_47 rfl rfl rfl ?_
      refine wa_putfield (pc' := 51) (j := 7) (w' := [zO _ [_, _, _, _, _, _, _, _, _, _, _], _, _, _, _, _, _, _, _]) zc_X3 lk_X3_46 dX3_offerEnd_48 rfl (by decide) rfl rfl (Nat.le_of_ble_eq_true rfl) True.intro rfl ?_
      refine wa_aload_n (pc' := 52) dX3_offerEnd_51 rfl rfl rfl ?_
      refine wa_aload_n (pc' := 53) dX3_offerEnd_52 rfl rfl rfl ?_
      refine wa_getfield (pc' := 56) (j := 6) zc_X3 lk_X3_68 dX3_offerEnd_53 rfl (by decide) rfl rfl ?_
      refine wa_putfield (pc' := 59) (j := 8) (w' := [zO _ [_, _, _, _, _, _, _, _, _, _, _], _, _, _, _, _, _, _, _]) zc_X3 lk_X3_53 dX3_offerEnd_56 rfl (by decide) rfl rfl (Nat.le_of_ble_eq_true rfl) True.intro rfl ?_
      refine wa_aload_n (pc' := 60) dX3_offerEnd_59 rfl rfl rfl ?_
      refine wa_aload_n (pc' := 61) dX3_offerEnd_60 rfl rfl rfl ?_
      refine wa_getfield (pc' := 64) (j := 1) zc_X3 lk_X3_12 dX3_offerEnd_61 rfl (by decide) rfl rfl ?_
      refine wa_rV (pc' := 67) (k_X7_size y.1) ok_X7_size lm_X3_97 dX3_offerEnd_64 rfl [5, 6] rfl (by decide) rfl rfl rfl rfl rfl (by decide) (Nat.le_of_ble_eq_true rfl) rfl (by decide) (by decide) rfl ?_
      refine wa_putfield (pc' := 70) (j := 9) (w' := [zO _ [_, _, _, _, _, _, _, _, _, _, _], _, _, _, _, _, _, _, _]) zc_X3 lk_X3_101 dX3_offerEnd_67 rfl (by decide) rfl rfl (Nat.le_of_ble_eq_true rfl) True.intro rfl ?_
      refine wa_aload_n (pc' := 71) dX3_offerEnd_70 rfl rfl rfl ?_
      refine wa_aload_n (pc' := 72) dX3_offerEnd_71 rfl rfl rfl ?_
      refine wa_getfield (pc' := 75) (j := 2) zc_X3 lk_X3_18 dX3_offerEnd_72 rfl (by decide) rfl rfl ?_
      refine wa_rV (pc' := 78) (k_X7_size y.2.1) ok_X7_size lm_X3_97 dX3_offerEnd_75 rfl [7, 8] rfl (by decide) rfl rfl rfl rfl rfl (by decide) (Nat.le_of_ble_eq_true rfl) rfl (by decide) (by decide) rfl ?_
      refine wa_putfield (pc' := 81) (j := 10) (w' := [zO _ [_, _, _, _, _, _, _, _, _, _, _], _, _, _, _, _, _, _, _]) zc_X3 lk_X3_104 dX3_offerEnd_78 rfl (by decide) rfl rfl (Nat.le_of_ble_eq_true rfl) True.intro rfl ?_
      refine wa_iload_n (pc' := 82) dX3_offerEnd_81 rfl rfl rfl ?_
      refine wa_zret dX3_offerEnd_82 rfl (by decide) (by decide) (by omega) ?_
      have hf1 : y.1.1 ≤ y.2.2.2.1 ∧ y.2.1.1 ≤ y.2.2.2.1 → offF y = 1 := fun h => if_pos h
      have hf0 : ¬ (y.1.1 ≤ y.2.2.2.1 ∧ y.2.1.1 ≤ y.2.2.2.1) → offF y = 0 := fun h => if_neg h
      first | exact absurd c35 (by decide) | exact absurd rfl c35 | exact zD_i (by rw [hf1 (by omega)] <;> rfl) (by rw [offE, if_pos (Or.inl (hf1 (by omega)))] <;> rfl) | exact zD_i (by rw [hf0 (by omega)] <;> rfl) (by rw [offE, if_pos (Or.inr (by omega))] <;> rfl) | exact zD_i (by rw [hf0 (by omega)] <;> rfl) (by rw [offE, if_neg (by rw [hf0 (by omega)]; omega)] <;> rfl)
    · refine wa_aload_n (pc' := 39) dX3_offerEnd_38 rfl rfl rfl ?_
      refine wa_getfield (pc' := 42) (j := 7) zc_X3 lk_X3_46 dX3_offerEnd_39 rfl (by decide) rfl rfl ?_
      refine wa_iconst (pc' := 43) dX3_offerEnd_42 rfl ?_
      refine wa_icmp_ne (tgt := 81) (pc' := 46) dX3_offerEnd_43 (by decide) rfl (by omega) (by omega) (fun c43 => ?_) (fun c43 => ?_)
      · refine wa_iload_n (pc' := 82) dX3_offerEnd_81 rfl rfl rfl ?_
        refine wa_zret dX3_offerEnd_82 rfl (by decide) (by decide) (by omega) ?_
        have hf1 : y.1.1 ≤ y.2.2.2.1 ∧ y.2.1.1 ≤ y.2.2.2.1 → offF y = 1 := fun h => if_pos h
        have hf0 : ¬ (y.1.1 ≤ y.2.2.2.1 ∧ y.2.1.1 ≤ y.2.2.2.1) → offF y = 0 := fun h => if_neg h
        first | exact absurd c35 (by decide) | exact absurd rfl c35 | exact zD_i (by rw [hf1 (by omega)] <;> rfl) (by rw [offE, if_pos (Or.inl (hf1 (by omega)))] <;> rfl) | exact zD_i (by rw [hf0 (by omega)] <;> rfl) (by rw [offE, if_pos (Or.inr (by omega))] <;> rfl) | exact zD_i (by rw [hf0 (by omega)] <;> rfl) (by rw [offE, if_neg (by rw [hf0 (by omega)]; omega)] <;> rfl)
      · refine wa_aload_n (pc' := 47) dX3_offerEnd_46 rfl rfl rfl ?_
        refine wa_iload_n (pc' := 48) dX3_offerEnd_47 rfl rfl rfl ?_
        refine wa_putfield (pc' := 51) (j := 7) (w' := [zO _ [_, _, _, _, _, _, _, _, _, _, _], _, _, _, _, _, _, _, _]) zc_X3 lk_X3_46 dX3_offerEnd_48 rfl (by decide) rfl rfl (Nat.le_of_ble_eq_true rfl) True.intro rfl ?_
        refine wa_aload_n (pc' := 52) dX3_offerEnd_51 rfl rfl rfl ?_
        refine wa_aload_n (pc' := 53) dX3_offerEnd_52 rfl rfl rfl ?_
        refine wa_getfield (pc' := 56) (j := 6) zc_X3 lk_X3_68 dX3_offerEnd_53 rfl (by decide) rfl rfl ?_
        refine wa_putfield (pc' := 59) (j := 8) (w' := [zO _ [_, _, _, _, _, _, _, _, _, _, _], _, _, _, _, _, _, _, _]) zc_X3 lk_X3_53 dX3_offerEnd_56 rfl (by decide) rfl rfl (Nat.le_of_ble_eq_true rfl) True.intro rfl ?_
        refine wa_aload_n (pc' := 60) dX3_offerEnd_59 rfl rfl rfl ?_
        refine wa_aload_n (pc' := 61) dX3_offerEnd_60 rfl rfl rfl ?_
        refine wa_getfield (pc' := 64) (j := 1) zc_X3 lk_X3_12 dX3_offerEnd_61 rfl (by decide) rfl rfl ?_
        refine wa_rV (pc' := 67) (k_X7_size y.1) ok_X7_size lm_X3_97 dX3_offerEnd_64 rfl [5, 6] rfl (by decide) rfl rfl rfl rfl rfl (by decide) (Nat.le_of_ble_eq_true rfl) rfl (by decide) (by decide) rfl ?_
        refine wa_putfield (pc' := 70) (j := 9) (w' := [zO _ [_, _, _, _, _, _, _, _, _, _, _], _, _, _, _, _, _, _, _]) zc_X3 lk_X3_101 dX3_offerEnd_67 rfl (by decide) rfl rfl (Nat.le_of_ble_eq_true rfl) True.intro rfl ?_
        refine wa_aload_n (pc' := 71) dX3_offerEnd_70 rfl rfl rfl ?_
        refine wa_aload_n (pc' := 72) dX3_offerEnd_71 rfl rfl rfl ?_
        refine wa_getfield (pc' := 75) (j := 2) zc_X3 lk_X3_18 dX3_offerEnd_72 rfl (by decide) rfl rfl ?_
        refine wa_rV (pc' := 78) (k_X7_size y.2.1) ok_X7_size lm_X3_97 dX3_offerEnd_75 rfl [7, 8] rfl (by decide) rfl rfl rfl rfl rfl (by decide) (Nat.le_of_ble_eq_true rfl) rfl (by decide) (by decide) rfl ?_
        refine wa_putfield (pc' := 81) (j := 10) (w' := [zO _ [_, _, _, _, _, _, _, _, _, _, _], _, _, _, _, _, _, _, _]) zc_X3 lk_X3_104 dX3_offerEnd_78 rfl (by decide) rfl rfl (Nat.le_of_ble_eq_true rfl) True.intro rfl ?_
        refine wa_iload_n (pc' := 82) dX3_offerEnd_81 rfl rfl rfl ?_
        refine wa_zret dX3_offerEnd_82 rfl (by decide) (by decide) (by omega) ?_
        have hf1 : y.1.1 ≤ y.2.2.2.1 ∧ y.2.1.1 ≤ y.2.2.2.1 → offF y = 1 := fun h => if_pos h
        have hf0 : ¬ (y.1.1 ≤ y.2.2.2.1 ∧ y.2.1.1 ≤ y.2.2.2.1) → offF y = 0 := fun h => if_neg h
        first | exact absurd c35 (by decide) | exact absurd rfl c35 | exact zD_i (by rw [hf1 (by omega)] <;> rfl) (by rw [offE, if_pos (Or.inl (hf1 (by omega)))] <;> rfl) | exact zD_i (by rw [hf0 (by omega)] <;> rfl) (by rw [offE, if_pos (Or.inr (by omega))] <;> rfl) | exact zD_i (by rw [hf0 (by omega)] <;> rfl) (by rw [offE, if_neg (by rw [hf0 (by omega)]; omega)] <;> rfl)
  · refine wa_aload_n (pc' := 15) dX3_offerEnd_14 rfl rfl rfl ?_
    refine wa_getfield (pc' := 18) (j := 2) zc_X3 lk_X3_18 dX3_offerEnd_15 rfl (by decide) rfl rfl ?_
    refine wa_rV (pc' := 21) (k_X7_size y.2.1) ok_X7_size lm_X3_97 dX3_offerEnd_18 rfl [7, 8] rfl (by decide) rfl rfl rfl rfl rfl (by decide) (Nat.le_of_ble_eq_true rfl) rfl (by decide) (by decide) rfl ?_
    refine wa_aload_n (pc' := 22) dX3_offerEnd_21 rfl rfl rfl ?_
    refine wa_getfield (pc' := 25) (j := 4) zc_X3 lk_X3_43 dX3_offerEnd_22 rfl (by decide) rfl rfl ?_
    refine wa_icmp_gt (tgt := 32) (pc' := 28) dX3_offerEnd_25 (by decide) rfl (by omega) (by omega) (fun c25 => ?_) (fun c25 => ?_)
    · refine wa_iconst (pc' := 33) dX3_offerEnd_32 rfl ?_
      refine wa_istore_n (pc' := 34) (ls' := [(2, _), (0, _), (1, _)]) dX3_offerEnd_33 rfl rfl (by decide) rfl ?_
      refine wa_iload_n (pc' := 35) dX3_offerEnd_34 rfl rfl rfl ?_
      refine wa_if_ne (tgt := 46) (pc' := 38) dX3_offerEnd_35 (by decide) rfl (by omega) (fun c35 => ?_) (fun c35 => ?_)
      · refine wa_aload_n (pc' := 47) dX3_offerEnd_46 rfl rfl rfl ?_
        refine wa_iload_n (pc' := 48) dX3_offerEnd_47 rfl rfl rfl ?_
        refine wa_putfield (pc' := 51) (j := 7) (w' := [zO _ [_, _, _, _, _, _, _, _, _, _, _], _, _, _, _, _, _, _, _]) zc_X3 lk_X3_46 dX3_offerEnd_48 rfl (by decide) rfl rfl (Nat.le_of_ble_eq_true rfl) True.intro rfl ?_
        refine wa_aload_n (pc' := 52) dX3_offerEnd_51 rfl rfl rfl ?_
        refine wa_aload_n (pc' := 53) dX3_offerEnd_52 rfl rfl rfl ?_
        refine wa_getfield (pc' := 56) (j := 6) zc_X3 lk_X3_68 dX3_offerEnd_53 rfl (by decide) rfl rfl ?_
        refine wa_putfield (pc' := 59) (j := 8) (w' := [zO _ [_, _, _, _, _, _, _, _, _, _, _], _, _, _, _, _, _, _, _]) zc_X3 lk_X3_53 dX3_offerEnd_56 rfl (by decide) rfl rfl (Nat.le_of_ble_eq_true rfl) True.intro rfl ?_
        refine wa_aload_n (pc' := 60) dX3_offerEnd_59 rfl rfl rfl ?_
        refine wa_aload_n (pc' := 61) dX3_offerEnd_60 rfl rfl rfl ?_
        refine wa_getfield (pc' := 64) (j := 1) zc_X3 lk_X3_12 dX3_offerEnd_61 rfl (by decide) rfl rfl ?_
        refine wa_rV (pc' := 67) (k_X7_size y.1) ok_X7_size lm_X3_97 dX3_offerEnd_64 rfl [5, 6] rfl (by decide) rfl rfl rfl rfl rfl (by decide) (Nat.le_of_ble_eq_true rfl) rfl (by decide) (by decide) rfl ?_
        refine wa_putfield (pc' := 70) (j := 9) (w' := [zO _ [_, _, _, _, _, _, _, _, _, _, _], _, _, _, _, _, _, _, _]) zc_X3 lk_X3_101 dX3_offerEnd_67 rfl (by decide) rfl rfl (Nat.le_of_ble_eq_true rfl) True.intro rfl ?_
        refine wa_aload_n (pc' := 71) dX3_offerEnd_70 rfl rfl rfl ?_
        refine wa_aload_n (pc' := 72) dX3_offerEnd_71 rfl rfl rfl ?_
        refine wa_getfield (pc' := 75) (j := 2) zc_X3 lk_X3_18 dX3_offerEnd_72 rfl (by decide) rfl rfl ?_
        refine wa_rV (pc' := 78) (k_X7_size y.2.1) ok_X7_size lm_X3_97 dX3_offerEnd_75 rfl [7, 8] rfl (by decide) rfl rfl rfl rfl rfl (by decide) (Nat.le_of_ble_eq_true rfl) rfl (by decide) (by decide) rfl ?_
        refine wa_putfield (pc' := 81) (j := 10) (w' := [zO _ [_, _, _, _, _, _, _, _, _, _, _], _, _, _, _, _, _, _, _]) zc_X3 lk_X3_104 dX3_offerEnd_78 rfl (by decide) rfl rfl (Nat.le_of_ble_eq_true rfl) True.intro rfl ?_
        refine wa_iload_n (pc' := 82) dX3_offerEnd_81 rfl rfl rfl ?_
        refine wa_zret dX3_offerEnd_82 rfl (by decide) (by decide) (by omega) ?_
        have hf1 : y.1.1 ≤ y.2.2.2.1 ∧ y.2.1.1 ≤ y.2.2.2.1 → offF y = 1 := fun h => if_pos h
        have hf0 : ¬ (y.1.1 ≤ y.2.2.2.1 ∧ y.2.1.1 ≤ y.2.2.2.1) → offF y = 0 := fun h => if_neg h
        first | exact absurd c35 (by decide) | exact absurd rfl c35 | exact zD_i (by rw [hf1 (by omega)] <;> rfl) (by rw [offE, if_pos (Or.inl (hf1 (by omega)))] <;> rfl) | exact zD_i (by rw [hf0 (by omega)] <;> rfl) (by rw [offE, if_pos (Or.inr (by omega))] <;> rfl) | exact zD_i (by rw [hf0 (by omega)] <;> rfl) (by rw [offE, if_neg (by rw [hf0 (by omega)]; omega)] <;> rfl)
      · refine wa_aload_n (pc' := 39) dX3_offerEnd_38 rfl rfl rfl ?_
        refine wa_getfield (pc' := 42) (j := 7) zc_X3 lk_X3_46 dX3_offerEnd_39 rfl (by decide) rfl rfl ?_
        refine wa_iconst (pc' := 43) dX3_offerEnd_42 rfl ?_
        refine wa_icmp_ne (tgt := 81) (pc' := 46) dX3_offerEnd_43 (by decide) rfl (by omega) (by omega) (fun c43 => ?_) (fun c43 => ?_)
        · refine wa_iload_n (pc' := 82) dX3_offerEnd_81 rfl rfl rfl ?_
          refine wa_zret dX3_offerEnd_82 rfl (by decide) (by decide) (by omega) ?_
          have hf1 : y.1.1 ≤ y.2.2.2.1 ∧ y.2.1.1 ≤ y.2.2.2.1 → offF y = 1 := fun h => if_pos h
          have hf0 : ¬ (y.1.1 ≤ y.2.2.2.1 ∧ y.2.1.1 ≤ y.2.2.2.1) → offF y = 0 := fun h => if_neg h
          first | exact absurd c35 (by decide) | exact absurd rfl c35 | exact zD_i (by rw [hf1 (by omega)] <;> rfl) (by rw [offE, if_pos (Or.inl (hf1 (by omega)))] <;> rfl) | exact zD_i (by rw [hf0 (by omega)] <;> rfl) (by rw [offE, if_pos (Or.inr (by omega))] <;> rfl) | exact zD_i (by rw [hf0 (by omega)] <;> rfl) (by rw [offE, if_neg (by rw [hf0 (by omega)]; omega)] <;> rfl)
        · refine wa_aload_n (pc' := 47) dX3_offerEnd_46 rfl rfl rfl ?_
          refine wa_iload_n (pc' := 48) dX3_offerEnd_47 rfl rfl rfl ?_
          refine wa_putfield (pc' := 51) (j := 7) (w' := [zO _ [_, _, _, _, _, _, _, _, _, _, _], _, _, _, _, _, _, _, _]) zc_X3 lk_X3_46 dX3_offerEnd_48 rfl (by decide) rfl rfl (Nat.le_of_ble_eq_true rfl) True.intro rfl ?_
          refine wa_aload_n (pc' := 52) dX3_offerEnd_51 rfl rfl rfl ?_
          refine wa_aload_n (pc' := 53) dX3_offerEnd_52 rfl rfl rfl ?_
          refine wa_getfield (pc' := 56) (j := 6) zc_X3 lk_X3_68 dX3_offerEnd_53 rfl (by decide) rfl rfl ?_
          refine wa_putfield (pc' := 59) (j := 8) (w' := [zO _ [_, _, _, _, _, _, _, _, _, _, _], _, _, _, _, _, _, _, _]) zc_X3 lk_X3_53 dX3_offerEnd_56 rfl (by decide) rfl rfl (Nat.le_of_ble_eq_true rfl) True.intro rfl ?_
          refine wa_aload_n (pc' := 60) dX3_offerEnd_59 rfl rfl rfl ?_
          refine wa_aload_n (pc' := 61) dX3_offerEnd_60 rfl rfl rfl ?_
          refine wa_getfield (pc' := 64) (j := 1) zc_X3 lk_X3_12 dX3_offerEnd_61 rfl (by decide) rfl rfl ?_
          refine wa_rV (pc' := 67) (k_X7_size y.1) ok_X7_size lm_X3_97 dX3_offerEnd_64 rfl [5, 6] rfl (by decide) rfl rfl rfl rfl rfl (by decide) (Nat.le_of_ble_eq_true rfl) rfl (by decide) (by decide) rfl ?_
          refine wa_putfield (pc' := 70) (j := 9) (w' := [zO _ [_, _, _, _, _, _, _, _, _, _, _], _, _, _, _, _, _, _, _]) zc_X3 lk_X3_101 dX3_offerEnd_67 rfl (by decide) rfl rfl (Nat.le_of_ble_eq_true rfl) True.intro rfl ?_
          refine wa_aload_n (pc' := 71) dX3_offerEnd_70 rfl rfl rfl ?_
          refine wa_aload_n (pc' := 72) dX3_offerEnd_71 rfl rfl rfl ?_
          refine wa_getfield (pc' := 75) (j := 2) zc_X3 lk_X3_18 dX3_offerEnd_72 rfl (by decide) rfl rfl ?_
          refine wa_rV (pc' := 78) (k_X7_size y.2.1) ok_X7_size lm_X3_97 dX3_offerEnd_75 rfl [7, 8] rfl (by decide) rfl rfl rfl rfl rfl (by decide) (Nat.le_of_ble_eq_true rfl) rfl (by decide) (by decide) rfl ?_
          refine wa_putfield (pc' := 81) (j := 10) (w' := [zO _ [_, _, _, _, _, _, _, _, _, _, _], _, _, _, _, _, _, _, _]) zc_X3 lk_X3_104 dX3_offerEnd_78 rfl (by decide) rfl rfl (Nat.le_of_ble_eq_true rfl) True.intro rfl ?_
          refine wa_iload_n (pc' := 82) dX3_offerEnd_81 rfl rfl rfl ?_
          refine wa_zret dX3_offerEnd_82 rfl (by decide) (by decide) (by omega) ?_
          have hf1 : y.1.1 ≤ y.2.2.2.1 ∧ y.2.1.1 ≤ y.2.2.2.1 → offF y = 1 := fun h => if_pos h
          have hf0 : ¬ (y.1.1 ≤ y.2.2.2.1 ∧ y.2.1.1 ≤ y.2.2.2.1) → offF y = 0 := fun h => if_neg h
          first | exact absurd c35 (by decide) | exact absurd rfl c35 | exact zD_i (by rw [hf1 (by omega)] <;> rfl) (by rw [offE, if_pos (Or.inl (hf1 (by omega)))] <;> rfl) | exact zD_i (by rw [hf0 (by omega)] <;> rfl) (by rw [offE, if_pos (Or.inr (by omega))] <;> rfl) | exact zD_i (by rw [hf0 (by omega)] <;> rfl) (by rw [offE, if_neg (by rw [hf0 (by omega)]; omega)] <;> rfl)
    · refine wa_iconst (pc' := 29) dX3_offerEnd_28 rfl ?_
      refine wa_goto (pc' := 33) dX3_offerEnd_29 (by decide) ?_
      refine wa_istore_n (pc' := 34) (ls' := [(2, _), (0, _), (1, _)]) dX3_offerEnd_33 rfl rfl (by decide) rfl ?_
      refine wa_iload_n (pc' := 35) dX3_offerEnd_34 rfl rfl rfl ?_
      refine wa_if_ne (tgt := 46) (pc' := 38) dX3_offerEnd_35 (by decide) rfl (by omega) (fun c35 => ?_) (fun c35 => ?_)
      · refine wa_aload_n (pc' := 47) dX3_offerEnd_46 rfl rfl rfl ?_
        refine wa_iload_n (pc' := 48) dX3_offerEnd_47 rfl rfl rfl ?_
        refine wa_putfield (pc' := 51) (j := 7) (w' := [zO _ [_, _, _, _, _, _, _, _, _, _, _], _, _, _, _, _, _, _, _]) zc_X3 lk_X3_46 dX3_offerEnd_48 rfl (by decide) rfl rfl (Nat.le_of_ble_eq_true rfl) True.intro rfl ?_
        refine wa_aload_n (pc' := 52) dX3_offerEnd_51 rfl rfl rfl ?_
        refine wa_aload_n (pc' := 53) dX3_offerEnd_52 rfl rfl rfl ?_
        refine wa_getfield (pc' := 56) (j := 6) zc_X3 lk_X3_68 dX3_offerEnd_53 rfl (by decide) rfl rfl ?_
        refine wa_putfield (pc' := 59) (j := 8) (w' := [zO _ [_, _, _, _, _, _, _, _, _, _, _], _, _, _, _, _, _, _, _]) zc_X3 lk_X3_53 dX3_offerEnd_56 rfl (by decide) rfl rfl (Nat.le_of_ble_eq_true rfl) True.intro rfl ?_
        refine wa_aload_n (pc' := 60) dX3_offerEnd_59 rfl rfl rfl ?_
        refine wa_aload_n (pc' := 61) dX3_offerEnd_60 rfl rfl rfl ?_
        refine wa_getfield (pc' := 64) (j := 1) zc_X3 lk_X3_12 dX3_offerEnd_61 rfl (by decide) rfl rfl ?_
        refine wa_rV (pc' := 67) (k_X7_size y.1) ok_X7_size lm_X3_97 dX3_offerEnd_64 rfl [5, 6] rfl (by decide) rfl rfl rfl rfl rfl (by decide) (Nat.le_of_ble_eq_true rfl) rfl (by decide) (by decide) rfl ?_
        refine wa_putfield (pc' := 70) (j := 9) (w' := [zO _ [_, _, _, _, _, _, _, _, _, _, _], _, _, _, _, _, _, _, _]) zc_X3 lk_X3_101 dX3_offerEnd_67 rfl (by decide) rfl rfl (Nat.le_of_ble_eq_true rfl) True.intro rfl ?_
        refine wa_aload_n (pc' := 71) dX3_offerEnd_70 rfl rfl rfl ?_
        refine wa_aload_n (pc' := 72) dX3_offerEnd_71 rfl rfl rfl ?_
        refine wa_getfield (pc' := 75) (j := 2) zc_X3 lk_X3_18 dX3_offerEnd_72 rfl (by decide) rfl rfl ?_
        refine wa_rV (pc' := 78) (k_X7_size y.2.1) ok_X7_size lm_X3_97 dX3_offerEnd_75 rfl [7, 8] rfl (by decide) rfl rfl rfl rfl rfl (by decide) (Nat.le_of_ble_eq_true rfl) rfl (by decide) (by decide) rfl ?_
        refine wa_putfield (pc' := 81) (j := 10) (w' := [zO _ [_, _, _, _, _, _, _, _, _, _, _], _, _, _, _, _, _, _, _]) zc_X3 lk_X3_104 dX3_offerEnd_78 rfl (by decide) rfl rfl (Nat.le_of_ble_eq_true rfl) True.intro rfl ?_
        refine wa_iload_n (pc' := 82) dX3_offerEnd_81 rfl rfl rfl ?_
        refine wa_zret dX3_offerEnd_82 rfl (by decide) (by decide) (by omega) ?_
        have hf1 : y.1.1 ≤ y.2.2.2.1 ∧ y.2.1.1 ≤ y.2.2.2.1 → offF y = 1 := fun h => if_pos h
        have hf0 : ¬ (y.1.1 ≤ y.2.2.2.1 ∧ y.2.1.1 ≤ y.2.2.2.1) → offF y = 0 := fun h => if_neg h
        first | exact absurd c35 (by decide) | exact absurd rfl c35 | exact zD_i (by rw [hf1 (by omega)] <;> rfl) (by rw [offE, if_pos (Or.inl (hf1 (by omega)))] <;> rfl) | exact zD_i (by rw [hf0 (by omega)] <;> rfl) (by rw [offE, if_pos (Or.inr (by omega))] <;> rfl) | exact zD_i (by rw [hf0 (by omega)] <;> rfl) (by rw [offE, if_neg (by rw [hf0 (by omega)]; omega)] <;> rfl)
      · refine wa_aload_n (pc' := 39) dX3_offerEnd_38 rfl rfl rfl ?_
        refine wa_getfield (pc' := 42) (j := 7) zc_X3 lk_X3_46 dX3_offerEnd_39 rfl (by decide) rfl rfl ?_
        refine wa_iconst (pc' := 43) dX3_offerEnd_42 rfl ?_
        refine wa_icmp_ne (tgt := 81) (pc' := 46) dX3_offerEnd_43 (by decide) rfl (by omega) (by omega) (fun c43 => ?_) (fun c43 => ?_)
        · refine wa_iload_n (pc' := 82) dX3_offerEnd_81 rfl rfl rfl ?_
          refine wa_zret dX3_offerEnd_82 rfl (by decide) (by decide) (by omega) ?_
          have hf1 : y.1.1 ≤ y.2.2.2.1 ∧ y.2.1.1 ≤ y.2.2.2.1 → offF y = 1 := fun h => if_pos h
          have hf0 : ¬ (y.1.1 ≤ y.2.2.2.1 ∧ y.2.1.1 ≤ y.2.2.2.1) → offF y = 0 := fun h => if_neg h
          first | exact absurd c35 (by decide) | exact absurd rfl c35 | exact zD_i (by rw [hf1 (by omega)] <;> rfl) (by rw [offE, if_pos (Or.inl (hf1 (by omega)))] <;> rfl) | exact zD_i (by rw [hf0 (by omega)] <;> rfl) (by rw [offE, if_pos (Or.inr (by omega))] <;> rfl) | exact zD_i (by rw [hf0 (by omega)] <;> rfl) (by rw [offE, if_neg (by rw [hf0 (by omega)]; omega)] <;> rfl)
        · refine wa_aload_n (pc' := 47) dX3_offerEnd_46 rfl rfl rfl ?_
          refine wa_iload_n (pc' := 48) dX3_offerEnd_47 rfl rfl rfl ?_
          refine wa_putfield (pc' := 51) (j := 7) (w' := [zO _ [_, _, _, _, _, _, _, _, _, _, _], _, _, _, _, _, _, _, _]) zc_X3 lk_X3_46 dX3_offerEnd_48 rfl (by decide) rfl rfl (Nat.le_of_ble_eq_true rfl) True.intro rfl ?_
          refine wa_aload_n (pc' := 52) dX3_offerEnd_51 rfl rfl rfl ?_
          refine wa_aload_n (pc' := 53) dX3_offerEnd_52 rfl rfl rfl ?_
          refine wa_getfield (pc' := 56) (j := 6) zc_X3 lk_X3_68 dX3_offerEnd_53 rfl (by decide) rfl rfl ?_
          refine wa_putfield (pc' := 59) (j := 8) (w' := [zO _ [_, _, _, _, _, _, _, _, _, _, _], _, _, _, _, _, _, _, _]) zc_X3 lk_X3_53 dX3_offerEnd_56 rfl (by decide) rfl rfl (Nat.le_of_ble_eq_true rfl) True.intro rfl ?_
          refine wa_aload_n (pc' := 60) dX3_offerEnd_59 rfl rfl rfl ?_
          refine wa_aload_n (pc' := 61) dX3_offerEnd_60 rfl rfl rfl ?_
          refine wa_getfield (pc' := 64) (j := 1) zc_X3 lk_X3_12 dX3_offerEnd_61 rfl (by decide) rfl rfl ?_
          refine wa_rV (pc' := 67) (k_X7_size y.1) ok_X7_size lm_X3_97 dX3_offerEnd_64 rfl [5, 6] rfl (by decide) rfl rfl rfl rfl rfl (by decide) (Nat.le_of_ble_eq_true rfl) rfl (by decide) (by decide) rfl ?_
          refine wa_putfield (pc' := 70) (j := 9) (w' := [zO _ [_, _, _, _, _, _, _, _, _, _, _], _, _, _, _, _, _, _, _]) zc_X3 lk_X3_101 dX3_offerEnd_67 rfl (by decide) rfl rfl (Nat.le_of_ble_eq_true rfl) True.intro rfl ?_
          refine wa_aload_n (pc' := 71) dX3_offerEnd_70 rfl rfl rfl ?_
          refine wa_aload_n (pc' := 72) dX3_offerEnd_71 rfl rfl rfl ?_
          refine wa_getfield (pc' := 75) (j := 2) zc_X3 lk_X3_18 dX3_offerEnd_72 rfl (by decide) rfl rfl ?_
          refine wa_rV (pc' := 78) (k_X7_size y.2.1) ok_X7_size lm_X3_97 dX3_offerEnd_75 rfl [7, 8] rfl (by decide) rfl rfl rfl rfl rfl (by decide) (Nat.le_of_ble_eq_true rfl) rfl (by decide) (by decide) rfl ?_
          refine wa_putfield (pc' := 81) (j := 10) (w' := [zO _ [_, _, _, _, _, _, _, _, _, _, _], _, _, _, _, _, _, _, _]) zc_X3 lk_X3_104 dX3_offerEnd_78 rfl (by decide) rfl rfl (Nat.le_of_ble_eq_true rfl) True.intro rfl ?_
          refine wa_iload_n (pc' := 82) dX3_offerEnd_81 rfl rfl rfl ?_
          refine wa_zret dX3_offerEnd_82 rfl (by decide) (by decide) (by omega) ?_
          have hf1 : y.1.1 ≤ y.2.2.2.1 ∧ y.2.1.1 ≤ y.2.2.2.1 → offF y = 1 := fun h => if_pos h
          have hf0 : ¬ (y.1.1 ≤ y.2.2.2.1 ∧ y.2.1.1 ≤ y.2.2.2.1) → offF y = 0 := fun h => if_neg h
          first | exact absurd c35 (by decide) | exact absurd rfl c35 | exact zD_i (by rw [hf1 (by omega)] <;> rfl) (by rw [offE, if_pos (Or.inl (hf1 (by omega)))] <;> rfl) | exact zD_i (by rw [hf0 (by omega)] <;> rfl) (by rw [offE, if_pos (Or.inr (by omega))] <;> rfl) | exact zD_i (by rw [hf0 (by omega)] <;> rfl) (by rw [offE, if_neg (by rw [hf0 (by omega)]; omega)] <;> rfl)

set_option maxRecDepth 10000 in
set_option maxHeartbeats 1000000 in
theorem k_X3_cutBack (s : zSh) (y : zLy) (ha : 0 ≤ y.1.1 ∧ y.1.1 ≤ 680) (hb : 0 ≤ y.2.1.1 ∧ y.2.1.1 ≤ 680) (hc : zin y.2.2.2.2.2.2.2.2.1) (hd : zin y.2.2.2.2.2.2.2.2.2) : zMet q_X3_cutBack 1 0 0 [zR 0] (wLy s y) (zD none (wLy s (cutB y))) := by
  refine z_introF (ls := [(0, _)]) (by decide +kernel) rfl (fun _ _ => rfl) (fun _ _ => Nat.le_of_ble_eq_true rfl) ?_
  refine wa_aload_n (pc' := 1) dX3_cutBack_0 rfl rfl rfl ?_
  refine wa_getfield (pc' := 4) (j := 1) zc_X3 lk_X3_12 dX3_cutBack_1 rfl (by decide) rfl rfl ?_
  refine wa_aload_n (pc' := 5) dX3_cutBack_4 rfl rfl rfl ?_
  refine wa_getfield (pc' := 8) (j := 9) zc_X3 lk_X3_101 dX3_cutBack_5 rfl (by decide) rfl rfl ?_
  refine wa_dV (pc' := 11) (w' := [_, _, _, _, _, zO _ [_, _], zA _ _ _, _, _]) (k_X7_cutTo y.1 (by omega) (by omega) y.2.2.2.2.2.2.2.2.1 (by omega)) ok_X7_cutTo lm_X3_71 dX3_cutBack_8 rfl [5, 6] rfl (by decide) rfl rfl rfl rfl rfl (by decide) (Nat.le_of_ble_eq_true rfl) rfl (by decide) (by decide) rfl rfl rfl ?_
  refine wa_aload_n (pc' := 12) dX3_cutBack_11 rfl rfl rfl ?_
  refine wa_getfield (pc' := 15) (j := 2) zc_X3 lk_X3_18 dX3_cutBack_12 rfl (by decide) rfl rfl ?_
  refine wa_aload_n (pc' := 16) dX3_cutBack_15 rfl rfl rfl ?_
  refine wa_getfield (pc' := 19) (j := 10) zc_X3 lk_X3_104 dX3_cutBack_16 rfl (by decide) rfl rfl ?_
  refine wa_dV (pc' := 22) (w' := [_, _, _, _, _, _, _, zO _ [_, _], zA _ _ _]) (k_X7_cutTo y.2.1 (by omega) (by omega) y.2.2.2.2.2.2.2.2.2 (by omega)) ok_X7_cutTo lm_X3_71 dX3_cutBack_19 rfl [7, 8] rfl (by decide) rfl rfl rfl rfl rfl (by decide) (Nat.le_of_ble_eq_true rfl) rfl (by decide) (by decide) rfl rfl rfl ?_
  refine wa_vret dX3_cutBack_22 rfl (by decide) (by decide) ?_
  exact ⟨rfl, rfl⟩

set_option maxRecDepth 10000 in
set_option maxHeartbeats 1000000 in
theorem l_place (s : zSh) (k f : Int) (hk : 0 ≤ k ∧ k ≤ 200) (hf : 0 ≤ f ∧ f < 65536) (hc : s.2.2.2.2.1 ≤ 40) (hs : okN s) (hT : ∀ k : Int, 0 ≤ k → k ≤ 201 → 0 ≤ s.2.1 k ∧ s.2.1 k ≤ 200) (hF : ∀ j : Int, 0 ≤ j → j < 200 → -1000 ≤ s.2.2.1 j ∧ s.2.2.1 j ≤ 1000) (hL : ∀ j : Int, 0 ≤ j → j < 200 → 0 ≤ s.1 j ∧ s.1 j < 65536) (R : zLy) : ∀ (m : Nat) (y : zLy), okY s k y → s.2.2.2.2.1 - y.2.2.2.2.2.1 ≤ m → plC s k f m y = R → Wa q_X3_placeChords 6 0 0 9 (zD none (wLy s R)) 26 [(2, zI f), (0, zR 0), (1, zI k)] [] (wLy s y) 0 0 := by
  intro m
  induction m with
  | zero =>
    intro y hy hm hR
    obtain ⟨h1, h2, h3, h4, h5, h6, h7, h8, h9, h10⟩ := hy
    refine wa_aload_n (pc' := 27) dX3_placeChords_26 rfl rfl rfl ?_
    refine wa_getfield (pc' := 30) (j := 6) zc_X3 lk_X3_68 dX3_placeChords_27 rfl (by decide) rfl rfl ?_
    refine wa_aload_n (pc' := 31) dX3_placeChords_30 rfl rfl rfl ?_
    refine wa_getfield (pc' := 34) (j := 0) zc_X3 lk_X3_21 dX3_placeChords_31 rfl (by decide) rfl rfl ?_
    refine wa_rV (pc' := 37) (k_X8_chordCount s.1 s.2.1 s.2.2.1 s.2.2.2.1 s.2.2.2.2.1 s.2.2.2.2.2.1 s.2.2.2.2.2.2) ok_X8_chordCount lm_X3_107 dX3_placeChords_34 rfl [1, 2, 3, 4] rfl (by decide) rfl rfl rfl rfl rfl (by decide) (Nat.le_of_ble_eq_true rfl) rfl (by decide) (by decide) rfl ?_
    refine wa_icmp_ge (tgt := 130) (pc' := 40) dX3_placeChords_37 (by decide) rfl (by omega) (by omega) (fun c37 => ?_) (fun c37 => ?_)
    · refine wa_vret dX3_placeChords_130 rfl (by decide) (by decide) ?_
      exact zD_i rfl (by rw [← hR]; rfl)
    · exact absurd c37 (by omega)
  | succ m ih =>
    intro y hy hm hR
    have hyy := hy
    obtain ⟨h1, h2, h3, h4, h5, h6, h7, h8, h9, h10⟩ := hy
    have hb9 := plB_n f h2.1
    rw [plC] at hR
    refine wa_aload_n (pc' := 27) dX3_placeChords_26 rfl rfl rfl ?_
    refine wa_getfield (pc' := 30) (j := 6) zc_X3 lk_X3_68 dX3_placeChords_27 rfl (by decide) rfl rfl ?_
    refine wa_aload_n (pc' := 31) dX3_placeChords_30 rfl rfl rfl ?_
    refine wa_getfield (pc' := 34) (j := 0) zc_X3 lk_X3_21 dX3_placeChords_31 rfl (by decide) rfl rfl ?_
    refine wa_rV (pc' := 37) (k_X8_chordCount s.1 s.2.1 s.2.2.1 s.2.2.2.1 s.2.2.2.2.1 s.2.2.2.2.2.1 s.2.2.2.2.2.2) ok_X8_chordCount lm_X3_107 dX3_placeChords_34 rfl [1, 2, 3, 4] rfl (by decide) rfl rfl rfl rfl rfl (by decide) (Nat.le_of_ble_eq_true rfl) rfl (by decide) (by decide) rfl ?_
    refine wa_icmp_ge (tgt := 130) (pc' := 40) dX3_placeChords_37 (by decide) rfl (by omega) (by omega) (fun c37 => ?_) (fun c37 => ?_)
    · refine wa_vret dX3_placeChords_130 rfl (by decide) (by decide) ?_
      exact zD_i rfl (by rw [← hR, if_neg (fun h => by first | omega | exact absurd (if_pos h.2) c56)] <;> rfl)
    · obtain ⟨n1, n2, n3⟩ := hs y.2.2.2.2.2.1 h3.1 (by omega)
      have hn := nameL_n n1 n2 n3
      refine wa_aload_n (pc' := 41) dX3_placeChords_40 rfl rfl rfl ?_
      refine wa_getfield (pc' := 44) (j := 0) zc_X3 lk_X3_21 dX3_placeChords_41 rfl (by decide) rfl rfl ?_
      refine wa_aload_n (pc' := 45) dX3_placeChords_44 rfl rfl rfl ?_
      refine wa_getfield (pc' := 48) (j := 6) zc_X3 lk_X3_68 dX3_placeChords_45 rfl (by decide) rfl rfl ?_
      refine wa_aload_n (pc' := 49) dX3_placeChords_48 rfl rfl rfl ?_
      refine wa_getfield (pc' := 52) (j := 3) zc_X3 lk_X3_39 dX3_placeChords_49 rfl (by decide) rfl rfl ?_
      refine wa_iload_n (pc' := 53) dX3_placeChords_52 rfl rfl rfl ?_
      refine wa_rV (pc' := 56) (k_X8_isAt s.1 s.2.1 s.2.2.1 s.2.2.2.1 s.2.2.2.2.1 s.2.2.2.2.2.1 s.2.2.2.2.2.2 y.2.2.2.2.2.1 y.2.2.1 k (by omega) (by omega) (by omega) hF) ok_X8_isAt lm_X3_110 dX3_placeChords_53 rfl [1, 2, 3, 4] rfl (by decide) rfl rfl rfl rfl rfl (by decide) (Nat.le_of_ble_eq_true rfl) rfl (by decide) (by decide) rfl ?_
      refine wa_if_eq (tgt := 130) (pc' := 59) dX3_placeChords_56 (by decide) rfl (by split <;> omega) (fun c56 => ?_) (fun c56 => ?_)
      · refine wa_vret dX3_placeChords_130 rfl (by decide) (by decide) ?_
        exact zD_i rfl (by rw [← hR, if_neg (fun h => by first | omega | exact absurd (if_pos h.2) c56)] <;> rfl)
      · refine wa_aload_n (pc' := 60) dX3_placeChords_59 rfl rfl rfl ?_
        refine wa_getfield (pc' := 63) (j := 1) zc_X3 lk_X3_12 dX3_placeChords_60 rfl (by decide) rfl rfl ?_
        refine wa_rV (pc' := 66) (k_X7_size y.1) ok_X7_size lm_X3_97 dX3_placeChords_63 rfl [5, 6] rfl (by decide) rfl rfl rfl rfl rfl (by decide) (Nat.le_of_ble_eq_true rfl) rfl (by decide) (by decide) rfl ?_
        refine wa_if_le (tgt := 86) (pc' := 69) dX3_placeChords_66 (by decide) rfl (by omega) (fun c66 => ?_) (fun c66 => ?_)
        · have hB : plB y f = y.2.1 := if_neg (by omega)
          rw [if_neg (show ¬ 0 < y.1.1 by omega)] at hb9
          show Wa _ _ _ _ _ _ _ _ _ [_, _, _, _, _, _, _, zO 3 [zR 8, zI y.2.1.1], zA 1 680 y.2.1.2] _ _
          rw [← hB]
          refine wa_aload_n (pc' := 87) dX3_placeChords_86 rfl rfl rfl ?_
          refine wa_getfield (pc' := 90) (j := 1) zc_X3 lk_X3_12 dX3_placeChords_87 rfl (by decide) rfl rfl ?_
          refine wa_aload_n (pc' := 91) dX3_placeChords_90 rfl rfl rfl ?_
          refine wa_getfield (pc' := 94) (j := 2) zc_X3 lk_X3_18 dX3_placeChords_91 rfl (by decide) rfl rfl ?_
          refine wa_rV (pc' := 97) (k_X7_size (plB y f)) ok_X7_size lm_X3_97 dX3_placeChords_94 rfl [7, 8] rfl (by decide) rfl rfl rfl rfl rfl (by decide) (Nat.le_of_ble_eq_true rfl) rfl (by decide) (by decide) rfl ?_
          refine wa_bipush (pc' := 99) dX3_placeChords_97 rfl rfl ?_
          refine wa_dV (pc' := 102) (w' := [_, _, _, _, _, zO _ [_, _], zA _ _ _, _, _]) (k_X7_fillTo y.1 (by omega) (by omega) (plB y f).1 32 (by omega) (by omega) (by omega)) ok_X7_fillTo lm_X3_114 dX3_placeChords_99 rfl [5, 6] rfl (by decide) rfl rfl rfl rfl rfl (by decide) (Nat.le_of_ble_eq_true rfl) rfl (by decide) (by decide) rfl rfl rfl ?_
          refine wa_aload_n (pc' := 103) dX3_placeChords_102 rfl rfl rfl ?_
          refine wa_getfield (pc' := 106) (j := 0) zc_X3 lk_X3_21 dX3_placeChords_103 rfl (by decide) rfl rfl ?_
          refine wa_aload_n (pc' := 107) dX3_placeChords_106 rfl rfl rfl ?_
          refine wa_getfield (pc' := 110) (j := 6) zc_X3 lk_X3_68 dX3_placeChords_107 rfl (by decide) rfl rfl ?_
          refine wa_aload_n (pc' := 111) dX3_placeChords_110 rfl rfl rfl ?_
          refine wa_getfield (pc' := 114) (j := 1) zc_X3 lk_X3_12 dX3_placeChords_111 rfl (by decide) rfl rfl ?_
          refine wa_dV (pc' := 117) (w' := [_, zO _ [_, _, _, _, _, _, _], zA _ _ _, zA _ _ _, zA _ _ _, zO _ [_, _], zA _ _ _, _, _]) (k_X8_writeName s.1 s.2.1 s.2.2.1 s.2.2.2.1 s.2.2.2.2.1 s.2.2.2.2.2.1 s.2.2.2.2.2.2 (rL y.1 (List.replicate ((plB y f).1 - y.1.1).toNat 32)) y.2.2.2.2.2.1 (by omega) (by omega) (by omega) (by omega) (by rw [rL_rep]; omega) (by rw [rL_rep]; omega)) ok_X8_writeName lm_X3_118 dX3_placeChords_114 rfl [1, 2, 3, 4, 5, 6] rfl (by decide) rfl rfl rfl rfl rfl (by decide) (Nat.le_of_ble_eq_true rfl) rfl (by decide) (by decide) rfl rfl rfl ?_
          refine wa_aload_n (pc' := 118) dX3_placeChords_117 rfl rfl rfl ?_
          refine wa_dup (pc' := 119) dX3_placeChords_118 rfl rfl ?_
          refine wa_getfield (pc' := 122) (j := 6) zc_X3 lk_X3_68 dX3_placeChords_119 rfl (by decide) rfl rfl ?_
          refine wa_iconst (pc' := 123) dX3_placeChords_122 rfl ?_
          refine wa_iadd (pc' := 124) dX3_placeChords_123 rfl ?_
          refine wa_putfield (pc' := 127) (j := 6) (w' := [zO _ [_, _, _, _, _, _, _, _, _, _, _], _, _, _, _, _, _, _, _]) zc_X3 lk_X3_68 dX3_placeChords_124 rfl (by decide) rfl rfl (Nat.le_of_ble_eq_true rfl) True.intro rfl ?_
          refine wa_goto (pc' := 26) dX3_placeChords_127 (by decide) ?_
          by_cases h9 : s.2.2.1 (y.2.2.2.2.2.1 * 5 + 0) = y.2.2.1 ∧ s.2.2.1 (y.2.2.2.2.2.1 * 5 + 1) = k
          · rw [if_pos ⟨by omega, h9⟩] at hR
            exact ih (plO s f y) (plO_ok hyy hs (by omega)) (by show _ - (y.2.2.2.2.2.1 + 1) ≤ _; omega) hR
          · exact absurd (if_neg h9) c56
        · rw [if_pos (show 0 < y.1.1 by omega)] at hb9
          refine wa_aload_n (pc' := 70) dX3_placeChords_69 rfl rfl rfl ?_
          refine wa_getfield (pc' := 73) (j := 2) zc_X3 lk_X3_18 dX3_placeChords_70 rfl (by decide) rfl rfl ?_
          refine wa_aload_n (pc' := 74) dX3_placeChords_73 rfl rfl rfl ?_
          refine wa_getfield (pc' := 77) (j := 1) zc_X3 lk_X3_12 dX3_placeChords_74 rfl (by decide) rfl rfl ?_
          refine wa_rV (pc' := 80) (k_X7_size y.1) ok_X7_size lm_X3_97 dX3_placeChords_77 rfl [5, 6] rfl (by decide) rfl rfl rfl rfl rfl (by decide) (Nat.le_of_ble_eq_true rfl) rfl (by decide) (by decide) rfl ?_
          refine wa_iconst (pc' := 81) dX3_placeChords_80 rfl ?_
          refine wa_iadd (pc' := 82) dX3_placeChords_81 rfl ?_
          refine wa_iload_n (pc' := 83) dX3_placeChords_82 rfl rfl rfl ?_
          refine wa_dV (pc' := 86) (w' := [_, _, _, _, _, _, _, zO _ [_, _], zA _ _ _]) (k_X7_fillTo y.2.1 (by omega) (by omega) (y.1.1 + 1) f (by omega) (by omega) hf) ok_X7_fillTo lm_X3_114 dX3_placeChords_83 rfl [7, 8] rfl (by decide) rfl rfl rfl rfl rfl (by decide) (Nat.le_of_ble_eq_true rfl) rfl (by decide) (by decide) rfl rfl rfl ?_
          show Wa _ _ _ _ _ _ _ _ [] [_, _, _, _, _, _, _, zO 3 [zR 8, zI (rL y.2.1 (List.replicate (y.1.1 + 1 - y.2.1.1).toNat f)).1], zA 1 680 (rL y.2.1 (List.replicate (y.1.1 + 1 - y.2.1.1).toNat f)).2] _ _
          rw [show rL y.2.1 (List.replicate (y.1.1 + 1 - y.2.1.1).toNat f) = plB y f from (if_pos (show 0 < y.1.1 by omega)).symm]
          refine wa_aload_n (pc' := 87) dX3_placeChords_86 rfl rfl rfl ?_
          refine wa_getfield (pc' := 90) (j := 1) zc_X3 lk_X3_12 dX3_placeChords_87 rfl (by decide) rfl rfl ?_
          refine wa_aload_n (pc' := 91) dX3_placeChords_90 rfl rfl rfl ?_
          refine wa_getfield (pc' := 94) (j := 2) zc_X3 lk_X3_18 dX3_placeChords_91 rfl (by decide) rfl rfl ?_
          refine wa_rV (pc' := 97) (k_X7_size (plB y f)) ok_X7_size lm_X3_97 dX3_placeChords_94 rfl [7, 8] rfl (by decide) rfl rfl rfl rfl rfl (by decide) (Nat.le_of_ble_eq_true rfl) rfl (by decide) (by decide) rfl ?_
          refine wa_bipush (pc' := 99) dX3_placeChords_97 rfl rfl ?_
          refine wa_dV (pc' := 102) (w' := [_, _, _, _, _, zO _ [_, _], zA _ _ _, _, _]) (k_X7_fillTo y.1 (by omega) (by omega) (plB y f).1 32 (by omega) (by omega) (by omega)) ok_X7_fillTo lm_X3_114 dX3_placeChords_99 rfl [5, 6] rfl (by decide) rfl rfl rfl rfl rfl (by decide) (Nat.le_of_ble_eq_true rfl) rfl (by decide) (by decide) rfl rfl rfl ?_
          refine wa_aload_n (pc' := 103) dX3_placeChords_102 rfl rfl rfl ?_
          refine wa_getfield (pc' := 106) (j := 0) zc_X3 lk_X3_21 dX3_placeChords_103 rfl (by decide) rfl rfl ?_
          refine wa_aload_n (pc' := 107) dX3_placeChords_106 rfl rfl rfl ?_
          refine wa_getfield (pc' := 110) (j := 6) zc_X3 lk_X3_68 dX3_placeChords_107 rfl (by decide) rfl rfl ?_
          refine wa_aload_n (pc' := 111) dX3_placeChords_110 rfl rfl rfl ?_
          refine wa_getfield (pc' := 114) (j := 1) zc_X3 lk_X3_12 dX3_placeChords_111 rfl (by decide) rfl rfl ?_
          refine wa_dV (pc' := 117) (w' := [_, zO _ [_, _, _, _, _, _, _], zA _ _ _, zA _ _ _, zA _ _ _, zO _ [_, _], zA _ _ _, _, _]) (k_X8_writeName s.1 s.2.1 s.2.2.1 s.2.2.2.1 s.2.2.2.2.1 s.2.2.2.2.2.1 s.2.2.2.2.2.2 (rL y.1 (List.replicate ((plB y f).1 - y.1.1).toNat 32)) y.2.2.2.2.2.1 (by omega) (by omega) (by omega) (by omega) (by rw [rL_rep]; omega) (by rw [rL_rep]; omega)) ok_X8_writeName lm_X3_118 dX3_placeChords_114 rfl [1, 2, 3, 4, 5, 6] rfl (by decide) rfl rfl rfl rfl rfl (by decide) (Nat.le_of_ble_eq_true rfl) rfl (by decide) (by decide) rfl rfl rfl ?_
          refine wa_aload_n (pc' := 118) dX3_placeChords_117 rfl rfl rfl ?_
          refine wa_dup (pc' := 119) dX3_placeChords_118 rfl rfl ?_
          refine wa_getfield (pc' := 122) (j := 6) zc_X3 lk_X3_68 dX3_placeChords_119 rfl (by decide) rfl rfl ?_
          refine wa_iconst (pc' := 123) dX3_placeChords_122 rfl ?_
          refine wa_iadd (pc' := 124) dX3_placeChords_123 rfl ?_
          refine wa_putfield (pc' := 127) (j := 6) (w' := [zO _ [_, _, _, _, _, _, _, _, _, _, _], _, _, _, _, _, _, _, _]) zc_X3 lk_X3_68 dX3_placeChords_124 rfl (by decide) rfl rfl (Nat.le_of_ble_eq_true rfl) True.intro rfl ?_
          refine wa_goto (pc' := 26) dX3_placeChords_127 (by decide) ?_
          by_cases h9 : s.2.2.1 (y.2.2.2.2.2.1 * 5 + 0) = y.2.2.1 ∧ s.2.2.1 (y.2.2.2.2.2.1 * 5 + 1) = k
          · rw [if_pos ⟨by omega, h9⟩] at hR
            exact ih (plO s f y) (plO_ok hyy hs (by omega)) (by show _ - (y.2.2.2.2.2.1 + 1) ≤ _; omega) hR
          · exact absurd (if_neg h9) c56

