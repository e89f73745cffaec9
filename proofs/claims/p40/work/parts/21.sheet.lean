/-! Sheet -/
abbrev wSh (L T F : Int → Int) (lc cc sg mn : Int) : List zE := [zO 4 [zR 1, zR 2, zI lc, zR 3, zI cc, zI sg, zI mn], zA 1 200 L, zA 0 202 T, zA 0 200 F]
def stO (T : Int → Int) (l : Int) : Int := if 0 ≤ l ∧ l < 202 then T l else 0
theorem stO_in {T : Int → Int} {l : Int} (h : 0 ≤ l ∧ l < 202) : stO T l = T l := if_pos h
def ltr (L T : Int → Int) (line col : Int) : Int := if 0 ≤ col ∧ T line + col < T (line + 1) then L (T line + col) else -1
def upP (F : Int → Int) (i line col : Int) : Prop := F (i * 5 + 0) < line ∨ (F (i * 5 + 0) = line ∧ F (i * 5 + 1) ≤ col)
def upT (F : Int → Int) (i line col : Int) : Int := if F (i * 5 + 0) < line ∨ (F (i * 5 + 0) = line ∧ F (i * 5 + 1) ≤ col) then 1 else 0
def cUT (F : Int → Int) (line col : Int) : Nat → Int → Int
  | 0, i => i
  | n + 1, i => if F (i * 5 + 0) < line ∨ (F (i * 5 + 0) = line ∧ F (i * 5 + 1) ≤ col) then cUT F line col n (i + 1) else i
theorem cUT_le (F : Int → Int) (line col : Int) : ∀ (n : Nat) (i : Int), i ≤ cUT F line col n i ∧ cUT F line col n i ≤ i + n
  | 0, i => by simp [cUT]
  | n + 1, i => by
    have := cUT_le F line col n (i + 1)
    simp only [cUT]
    split <;> omega
def toneF (r q b : Int) : Int := if b = 100 then zrs (zTones.getD q.toNat 0) (pcl r) else zor (zrs (zTones.getD q.toNat 0) (pcl r)) (zshl 1 (pcl b))
def nameL (r q b : Int) : List Int := noteL r ++ (zBytes.getD q.toNat [] ++ if b = 100 then [] else 47 :: noteL b)
def putF (F : Int → Int) (i r q b : Int) : Int → Int := zup (zup (zup F (i * 5 + 2) r) (i * 5 + 3) q) (i * 5 + 4) b
def insF (F : Int → Int) (i cc line col r q b : Int) : Int → Int := putF (zup (zup (zcpy F F (i * 5) ((i + 1) * 5) ((cc - i) * 5)) (i * 5 + 0) line) (i * 5 + 1) col) i r q b
def outF (F : Int → Int) (i cc : Int) : Int → Int := zcpy F F ((i + 1) * 5) (i * 5) ((cc - 1 - i) * 5)
def spP (p se sg si : Int) : Int := spl ((7 * p + se) % 12) sg si
def spC (p se sg si : Int) : Int := if p = 100 then 0 else if spP p se sg si = p then 0 else 1
def spU (F : Int → Int) (j se sg si : Int) : Int → Int := if F j = 100 then F else zup F j (spP (F j) se sg si)
def spI (F : Int → Int) (i se sg si : Int) : Int → Int := spU (spU F (i * 5 + 2) se sg si) (i * 5 + 4) se sg si
def spK (F : Int → Int) (i se sg si : Int) : Int := spC (F (i * 5 + 2)) se sg si + spC (spU F (i * 5 + 2) se sg si (i * 5 + 4)) se sg si
def spR (se sg si : Int) : Nat → Int → Int → (Int → Int) → Int × (Int → Int)
  | 0, _, n, F => (n, F)
  | m + 1, i, n, F => spR se sg si m (i + 1) (n + spC (F (i * 5 + 2)) se sg si + spC (spU F (i * 5 + 2) se sg si (i * 5 + 4)) se sg si) (spI F i se sg si)
/-- the fingerprint's loops -/
def fpA (g : Int → Int) : Nat → Int → Int → Int
  | 0, _, f => f
  | m + 1, k, f => fpA g m (k + 1) (31 * f + g k)
def fpB (len : Int → Int) (g : Int → Int → Int) : Nat → Int → Int → Int
  | 0, _, f => f
  | m + 1, l, f => fpB len g m (l + 1) (fpA (g l) (len l).toNat 0 (31 * f + len l))
def fpC (g : Int → Int → Int) : Nat → Int → Int → Int
  | 0, _, f => f
  | m + 1, i, f => fpC g m (i + 1) (fpA (g i) 5 0 f)
set_option maxRecDepth 10000 in
set_option maxHeartbeats 1000000 in
theorem k_X8_startOf (L T F : Int → Int) (lc cc sg mn : Int) (l : Int) (hl : zin l) : zMet q_X8_startOf 0 0 0 [zR 0, zI l] (wSh L T F lc cc sg mn) (zD (some (zI (stO T l))) (wSh L T F lc cc sg mn)) := by
  refine z_introF (ls := [(0, _), (1, _)]) (by decide +kernel) rfl (fun _ _ => rfl) (fun _ _ => Nat.le_of_ble_eq_true rfl) ?_
  refine wa_iload_n (pc' := 1) dX8_startOf_0 rfl rfl rfl ?_
  refine wa_if_lt (tgt := 22) (pc' := 4) dX8_startOf_1 (by decide) rfl (by omega) (fun c1 => ?_) (fun c1 => ?_)
  · refine wa_iconst (pc' := 23) dX8_startOf_22 rfl ?_
    refine wa_iret dX8_startOf_23 rfl (by decide) (by decide) ?_
    exact zD_i (by first | rw [stO, if_pos (by omega)] | rw [stO, if_neg (by omega)]) rfl
  · refine wa_iload_n (pc' := 5) dX8_startOf_4 rfl rfl rfl ?_
    refine wa_aload_n (pc' := 6) dX8_startOf_5 rfl rfl rfl ?_
    refine wa_getfield (pc' := 9) (j := 1) zc_X8 lk_X8_15 dX8_startOf_6 rfl (by decide) rfl rfl ?_
    refine wa_alen (pc' := 10) dX8_startOf_9 rfl rfl (by decide) ?_
    refine wa_icmp_ge (tgt := 22) (pc' := 13) dX8_startOf_10 (by decide) rfl (by omega) (by omega) (fun c10 => ?_) (fun c10 => ?_)
    · refine wa_iconst (pc' := 23) dX8_startOf_22 rfl ?_
      refine wa_iret dX8_startOf_23 rfl (by decide) (by decide) ?_
      exact zD_i (by first | rw [stO, if_pos (by omega)] | rw [stO, if_neg (by omega)]) rfl
    · refine wa_aload_n (pc' := 14) dX8_startOf_13 rfl rfl rfl ?_
      refine wa_getfield (pc' := 17) (j := 1) zc_X8 lk_X8_15 dX8_startOf_14 rfl (by decide) rfl rfl ?_
      refine wa_iload_n (pc' := 18) dX8_startOf_17 rfl rfl rfl ?_
      refine wa_iaload (pc' := 19) dX8_startOf_18 rfl rfl (by omega) (by omega) (by decide) ?_
      refine wa_goto (pc' := 23) dX8_startOf_19 (by decide) ?_
      refine wa_iret dX8_startOf_23 rfl (by decide) (by decide) ?_
      exact zD_i (by first | rw [stO, if_pos (by omega)] | rw [stO, if_neg (by omega)]) rfl

set_option maxRecDepth 10000 in
set_option maxHeartbeats 1000000 in
theorem k_X8_lengthOf (L T F : Int → Int) (lc cc sg mn : Int) (l : Int) (hl : 0 ≤ l ∧ l ≤ 200) : zMet q_X8_lengthOf 1 0 0 [zR 0, zI l] (wSh L T F lc cc sg mn) (zD (some (zI (T (l + 1) - T l))) (wSh L T F lc cc sg mn)) := by
  refine z_introF (ls := [(0, _), (1, _)]) (by decide +kernel) rfl (fun _ _ => rfl) (fun _ _ => Nat.le_of_ble_eq_true rfl) ?_
  refine wa_aload_n (pc' := 1) dX8_lengthOf_0 rfl rfl rfl ?_
  refine wa_iload_n (pc' := 2) dX8_lengthOf_1 rfl rfl rfl ?_
  refine wa_iconst (pc' := 3) dX8_lengthOf_2 rfl ?_
  refine wa_iadd (pc' := 4) dX8_lengthOf_3 rfl ?_
  refine wa_rV (pc' := 7) (k_X8_startOf _ _ _ _ _ _ _ _ (by omega)) ok_X8_startOf lm_X8_42 dX8_lengthOf_4 rfl [0, 1, 2, 3] rfl (by decide) rfl rfl rfl rfl rfl (by decide) (Nat.le_of_ble_eq_true rfl) rfl (by decide) (by decide) rfl ?_
  refine wa_aload_n (pc' := 8) dX8_lengthOf_7 rfl rfl rfl ?_
  refine wa_iload_n (pc' := 9) dX8_lengthOf_8 rfl rfl rfl ?_
  refine wa_rV (pc' := 12) (k_X8_startOf _ _ _ _ _ _ _ _ (by omega)) ok_X8_startOf lm_X8_42 dX8_lengthOf_9 rfl [0, 1, 2, 3] rfl (by decide) rfl rfl rfl rfl rfl (by decide) (Nat.le_of_ble_eq_true rfl) rfl (by decide) (by decide) rfl ?_
  refine wa_isub (pc' := 13) dX8_lengthOf_12 rfl ?_
  refine wa_iret dX8_lengthOf_13 rfl (by decide) (by decide) ?_
  exact zD_i (by rw [stO_in (by omega), stO_in (by omega)]) rfl

set_option maxRecDepth 10000 in
set_option maxHeartbeats 1000000 in
theorem k_X8_lineCount (L T F : Int → Int) (lc cc sg mn : Int) : zMet q_X8_lineCount 0 0 0 [zR 0] (wSh L T F lc cc sg mn) (zD (some (zI lc)) (wSh L T F lc cc sg mn)) := by
  refine z_introF (ls := [(0, _)]) (by decide +kernel) rfl (fun _ _ => rfl) (fun _ _ => Nat.le_of_ble_eq_true rfl) ?_
  refine wa_aload_n (pc' := 1) dX8_lineCount_0 rfl rfl rfl ?_
  refine wa_getfield (pc' := 4) (j := 2) zc_X8 lk_X8_19 dX8_lineCount_1 rfl (by decide) rfl rfl ?_
  refine wa_iret dX8_lineCount_4 rfl (by decide) (by decide) ?_
  exact ⟨rfl, rfl⟩

set_option maxRecDepth 10000 in
set_option maxHeartbeats 1000000 in
theorem k_X8_chordCount (L T F : Int → Int) (lc cc sg mn : Int) : zMet q_X8_chordCount 0 0 0 [zR 0] (wSh L T F lc cc sg mn) (zD (some (zI cc)) (wSh L T F lc cc sg mn)) := by
  refine z_introF (ls := [(0, _)]) (by decide +kernel) rfl (fun _ _ => rfl) (fun _ _ => Nat.le_of_ble_eq_true rfl) ?_
  refine wa_aload_n (pc' := 1) dX8_chordCount_0 rfl rfl rfl ?_
  refine wa_getfield (pc' := 4) (j := 4) zc_X8 lk_X8_32 dX8_chordCount_1 rfl (by decide) rfl rfl ?_
  refine wa_iret dX8_chordCount_4 rfl (by decide) (by decide) ?_
  exact ⟨rfl, rfl⟩

set_option maxRecDepth 10000 in
set_option maxHeartbeats 1000000 in
theorem k_X8_hasLine (L T F : Int → Int) (lc cc sg mn : Int) (l : Int) (hl : zin l) (hc : zin lc) : zMet q_X8_hasLine 0 0 0 [zR 0, zI l] (wSh L T F lc cc sg mn) (zD (some (zI (if 0 ≤ l ∧ l < lc then 1 else 0))) (wSh L T F lc cc sg mn)) := by
  refine z_introF (ls := [(0, _), (1, _)]) (by decide +kernel) rfl (fun _ _ => rfl) (fun _ _ => Nat.le_of_ble_eq_true rfl) ?_
  refine wa_iload_n (pc' := 1) dX8_hasLine_0 rfl rfl rfl ?_
  refine wa_if_lt (tgt := 16) (pc' := 4) dX8_hasLine_1 (by decide) rfl (by omega) (fun c1 => ?_) (fun c1 => ?_)
  · refine wa_iconst (pc' := 17) dX8_hasLine_16 rfl ?_
    refine wa_zret dX8_hasLine_17 rfl (by decide) (by decide) (by omega) ?_
    exact zD_i (by first | rw [if_pos (by omega)] | rw [if_neg (by omega)]) rfl
  · refine wa_iload_n (pc' := 5) dX8_hasLine_4 rfl rfl rfl ?_
    refine wa_aload_n (pc' := 6) dX8_hasLine_5 rfl rfl rfl ?_
    refine wa_getfield (pc' := 9) (j := 2) zc_X8 lk_X8_19 dX8_hasLine_6 rfl (by decide) rfl rfl ?_
    refine wa_icmp_ge (tgt := 16) (pc' := 12) dX8_hasLine_9 (by decide) rfl (by omega) (by omega) (fun c9 => ?_) (fun c9 => ?_)
    · refine wa_iconst (pc' := 17) dX8_hasLine_16 rfl ?_
      refine wa_zret dX8_hasLine_17 rfl (by decide) (by decide) (by omega) ?_
      exact zD_i (by first | rw [if_pos (by omega)] | rw [if_neg (by omega)]) rfl
    · refine wa_iconst (pc' := 13) dX8_hasLine_12 rfl ?_
      refine wa_goto (pc' := 17) dX8_hasLine_13 (by decide) ?_
      refine wa_zret dX8_hasLine_17 rfl (by decide) (by decide) (by omega) ?_
      exact zD_i (by first | rw [if_pos (by omega)] | rw [if_neg (by omega)]) rfl

set_option maxRecDepth 10000 in
set_option maxHeartbeats 1000000 in
theorem k_X8_letterAt (L T F : Int → Int) (lc cc sg mn : Int) (l k : Int) (hl : 0 ≤ l ∧ l ≤ 200) (hk : -1000 ≤ k ∧ k ≤ 1000) (hT : ∀ k : Int, 0 ≤ k → k ≤ 201 → 0 ≤ T k ∧ T k ≤ 200) : zMet q_X8_letterAt 1 0 0 [zR 0, zI l, zI k] (wSh L T F lc cc sg mn) (zD (some (zI (ltr L T l k))) (wSh L T F lc cc sg mn)) := by
  refine z_introF (ls := [(0, _), (1, _), (2, _)]) (by decide +kernel) rfl (fun _ _ => rfl) (fun _ _ => Nat.le_of_ble_eq_true rfl) ?_
  have t1 := hT l (by omega) (by omega)
  have t2 := hT (l + 1) (by omega) (by omega)
  refine wa_aload_n (pc' := 1) dX8_letterAt_0 rfl rfl rfl ?_
  refine wa_iload_n (pc' := 2) dX8_letterAt_1 rfl rfl rfl ?_
  refine wa_rV (pc' := 5) (k_X8_startOf _ _ _ _ _ _ _ _ (by omega)) ok_X8_startOf lm_X8_42 dX8_letterAt_2 rfl [0, 1, 2, 3] rfl (by decide) rfl rfl rfl rfl rfl (by decide) (Nat.le_of_ble_eq_true rfl) rfl (by decide) (by decide) rfl ?_
  rw [stO_in (T := T) (show 0 ≤ l ∧ l < 202 by omega)]
  refine wa_iload_n (pc' := 6) dX8_letterAt_5 rfl rfl rfl ?_
  refine wa_iadd (pc' := 7) dX8_letterAt_6 rfl ?_
  refine wa_istore_n (pc' := 8) (ls' := [(3, _), (0, _), (1, _), (2, _)]) dX8_letterAt_7 rfl rfl (by decide) rfl ?_
  refine wa_iload_n (pc' := 9) dX8_letterAt_8 rfl rfl rfl ?_
  refine wa_if_lt (tgt := 27) (pc' := 12) dX8_letterAt_9 (by decide) rfl (by omega) (fun c9 => ?_) (fun c9 => ?_)
  · refine wa_iconst (pc' := 28) dX8_letterAt_27 rfl ?_
    refine wa_istore (pc' := 30) (ls' := [(4, _), (3, _), (0, _), (1, _), (2, _)]) dX8_letterAt_28 rfl (by decide) rfl ?_
    refine wa_iload (pc' := 32) dX8_letterAt_30 rfl rfl ?_
    refine wa_if_eq (tgt := 57) (pc' := 35) dX8_letterAt_32 (by decide) rfl (by omega) (fun c32 => ?_) (fun c32 => ?_)
    · refine wa_iconst (pc' := 58) dX8_letterAt_57 rfl ?_
      refine wa_iret dX8_letterAt_58 rfl (by decide) (by decide) ?_
      first | exact absurd rfl c32 | exact absurd c32 (by decide) | exact absurd c36 (by omega) | exact absurd c45 (by omega) | exact zD_i (by rw [ltr, if_pos ⟨by omega, by omega⟩]) rfl | exact zD_i (by rw [ltr, if_neg (fun h => by omega)]) rfl
    · refine wa_iload_n (pc' := 36) dX8_letterAt_35 rfl rfl rfl ?_
      refine wa_if_lt (tgt := 57) (pc' := 39) dX8_letterAt_36 (by decide) rfl (by omega) (fun c36 => ?_) (fun c36 => ?_)
      · refine wa_iconst (pc' := 58) dX8_letterAt_57 rfl ?_
        refine wa_iret dX8_letterAt_58 rfl (by decide) (by decide) ?_
        first | exact absurd rfl c32 | exact absurd c32 (by decide) | exact absurd c36 (by omega) | exact absurd c45 (by omega) | exact zD_i (by rw [ltr, if_pos ⟨by omega, by omega⟩]) rfl | exact zD_i (by rw [ltr, if_neg (fun h => by omega)]) rfl
      · refine wa_iload_n (pc' := 40) dX8_letterAt_39 rfl rfl rfl ?_
        refine wa_aload_n (pc' := 41) dX8_letterAt_40 rfl rfl rfl ?_
        refine wa_getfield (pc' := 44) (j := 0) zc_X8 lk_X8_9 dX8_letterAt_41 rfl (by decide) rfl rfl ?_
        refine wa_alen (pc' := 45) dX8_letterAt_44 rfl rfl (by decide) ?_
        refine wa_icmp_ge (tgt := 57) (pc' := 48) dX8_letterAt_45 (by decide) rfl (by omega) (by omega) (fun c45 => ?_) (fun c45 => ?_)
        · refine wa_iconst (pc' := 58) dX8_letterAt_57 rfl ?_
          refine wa_iret dX8_letterAt_58 rfl (by decide) (by decide) ?_
          first | exact absurd rfl c32 | exact absurd c32 (by decide) | exact absurd c36 (by omega) | exact absurd c45 (by omega) | exact zD_i (by rw [ltr, if_pos ⟨by omega, by omega⟩]) rfl | exact zD_i (by rw [ltr, if_neg (fun h => by omega)]) rfl
        · refine wa_aload_n (pc' := 49) dX8_letterAt_48 rfl rfl rfl ?_
          refine wa_getfield (pc' := 52) (j := 0) zc_X8 lk_X8_9 dX8_letterAt_49 rfl (by decide) rfl rfl ?_
          refine wa_iload_n (pc' := 53) dX8_letterAt_52 rfl rfl rfl ?_
          refine wa_caload (pc' := 54) dX8_letterAt_53 rfl rfl (by omega) (by omega) (by decide) ?_
          refine wa_goto (pc' := 58) dX8_letterAt_54 (by decide) ?_
          refine wa_iret dX8_letterAt_58 rfl (by decide) (by decide) ?_
          first | exact absurd rfl c32 | exact absurd c32 (by decide) | exact absurd c36 (by omega) | exact absurd c45 (by omega) | exact zD_i (by rw [ltr, if_pos ⟨by omega, by omega⟩]) rfl | exact zD_i (by rw [ltr, if_neg (fun h => by omega)]) rfl
  · refine wa_iload_n (pc' := 13) dX8_letterAt_12 rfl rfl rfl ?_
    refine wa_aload_n (pc' := 14) dX8_letterAt_13 rfl rfl rfl ?_
    refine wa_iload_n (pc' := 15) dX8_letterAt_14 rfl rfl rfl ?_
    refine wa_iconst (pc' := 16) dX8_letterAt_15 rfl ?_
    refine wa_iadd (pc' := 17) dX8_letterAt_16 rfl ?_
    refine wa_rV (pc' := 20) (k_X8_startOf _ _ _ _ _ _ _ _ (by omega)) ok_X8_startOf lm_X8_42 dX8_letterAt_17 rfl [0, 1, 2, 3] rfl (by decide) rfl rfl rfl rfl rfl (by decide) (Nat.le_of_ble_eq_true rfl) rfl (by decide) (by decide) rfl ?_
    rw [stO_in (T := T) (show 0 ≤ l + 1 ∧ l + 1 < 202 by omega)]
    refine wa_icmp_ge (tgt := 27) (pc' := 23) dX8_letterAt_20 (by decide) rfl (by omega) (by omega) (fun c20 => ?_) (fun c20 => ?_)
    · refine wa_iconst (pc' := 28) dX8_letterAt_27 rfl ?_
      refine wa_istore (pc' := 30) (ls' := [(4, _), (3, _), (0, _), (1, _), (2, _)]) dX8_letterAt_28 rfl (by decide) rfl ?_
      refine wa_iload (pc' := 32) dX8_letterAt_30 rfl rfl ?_
      refine wa_if_eq (tgt := 57) (pc' := 35) dX8_letterAt_32 (by decide) rfl (by omega) (fun c32 => ?_) (fun c32 => ?_)
      · refine wa_iconst (pc' := 58) dX8_letterAt_57 rfl ?_
        refine wa_iret dX8_letterAt_58 rfl (by decide) (by decide) ?_
        first | exact absurd rfl c32 | exact absurd c32 (by decide) | exact absurd c36 (by omega) | exact absurd c45 (by omega) | exact zD_i (by rw [ltr, if_pos ⟨by omega, by omega⟩]) rfl | exact zD_i (by rw [ltr, if_neg (fun h => by omega)]) rfl
      · refine wa_iload_n (pc' := 36) dX8_letterAt_35 rfl rfl rfl ?_
        refine wa_if_lt (tgt := 57) (pc' := 39) dX8_letterAt_36 (by decide) rfl (by omega) (fun c36 => ?_) (fun c36 => ?_)
        · refine wa_iconst (pc' := 58) dX8_letterAt_57 rfl ?_
          refine wa_iret dX8_letterAt_58 rfl (by decide) (by decide) ?_
          first | exact absurd rfl c32 | exact absurd c32 (by decide) | exact absurd c36 (by omega) | exact absurd c45 (by omega) | exact zD_i (by rw [ltr, if_pos ⟨by omega, by omega⟩]) rfl | exact zD_i (by rw [ltr, if_neg (fun h => by omega)]) rfl
        · refine wa_iload_n (pc' := 40) dX8_letterAt_39 rfl rfl rfl ?_
          refine wa_aload_n (pc' := 41) dX8_letterAt_40 rfl rfl rfl ?_
          refine wa_getfield (pc' := 44) (j := 0) zc_X8 lk_X8_9 dX8_letterAt_41 rfl (by decide) rfl rfl ?_
          refine wa_alen (pc' := 45) dX8_letterAt_44 rfl rfl (by decide) ?_
          refine wa_icmp_ge (tgt := 57) (pc' := 48) dX8_letterAt_45 (by decide) rfl (by omega) (by omega) (fun c45 => ?_) (fun c45 => ?_)
          · refine wa_iconst (pc' := 58) dX8_letterAt_57 rfl ?_
            refine wa_iret dX8_letterAt_58 rfl (by decide) (by decide) ?_
            first | exact absurd rfl c32 | exact absurd c32 (by decide) | exact absurd c36 (by omega) | exact absurd c45 (by omega) | exact zD_i (by rw [ltr, if_pos ⟨by omega, by omega⟩]) rfl | exact zD_i (by rw [ltr, if_neg (fun h => by omega)]) rfl
          · refine wa_aload_n (pc' := 49) dX8_letterAt_48 rfl rfl rfl ?_
            refine wa_getfield (pc' := 52) (j := 0) zc_X8 lk_X8_9 dX8_letterAt_49 rfl (by decide) rfl rfl ?_
            refine wa_iload_n (pc' := 53) dX8_letterAt_52 rfl rfl rfl ?_
            refine wa_caload (pc' := 54) dX8_letterAt_53 rfl rfl (by omega) (by omega) (by decide) ?_
            refine wa_goto (pc' := 58) dX8_letterAt_54 (by decide) ?_
            refine wa_iret dX8_letterAt_58 rfl (by decide) (by decide) ?_
            first | exact absurd rfl c32 | exact absurd c32 (by decide) | exact absurd c36 (by omega) | exact absurd c45 (by omega) | exact zD_i (by rw [ltr, if_pos ⟨by omega, by omega⟩]) rfl | exact zD_i (by rw [ltr, if_neg (fun h => by omega)]) rfl
    · refine wa_iconst (pc' := 24) dX8_letterAt_23 rfl ?_
      refine wa_goto (pc' := 28) dX8_letterAt_24 (by decide) ?_
      refine wa_istore (pc' := 30) (ls' := [(4, _), (3, _), (0, _), (1, _), (2, _)]) dX8_letterAt_28 rfl (by decide) rfl ?_
      refine wa_iload (pc' := 32) dX8_letterAt_30 rfl rfl ?_
      refine wa_if_eq (tgt := 57) (pc' := 35) dX8_letterAt_32 (by decide) rfl (by omega) (fun c32 => ?_) (fun c32 => ?_)
      · refine wa_iconst (pc' := 58) dX8_letterAt_57 rfl ?_
        refine wa_iret dX8_letterAt_58 rfl (by decide) (by decide) ?_
        first | exact absurd rfl c32 | exact absurd c32 (by decide) | exact absurd c36 (by omega) | exact absurd c45 (by omega) | exact zD_i (by rw [ltr, if_pos ⟨by omega, by omega⟩]) rfl | exact zD_i (by rw [ltr, if_neg (fun h => by omega)]) rfl
      · refine wa_iload_n (pc' := 36) dX8_letterAt_35 rfl rfl rfl ?_
        refine wa_if_lt (tgt := 57) (pc' := 39) dX8_letterAt_36 (by decide) rfl (by omega) (fun c36 => ?_) (fun c36 => ?_)
        · refine wa_iconst (pc' := 58) dX8_letterAt_57 rfl ?_
          refine wa_iret dX8_letterAt_58 rfl (by decide) (by decide) ?_
          first | exact absurd rfl c32 | exact absurd c32 (by decide) | exact absurd c36 (by omega) | exact absurd c45 (by omega) | exact zD_i (by rw [ltr, if_pos ⟨by omega, by omega⟩]) rfl | exact zD_i (by rw [ltr, if_neg (fun h => by omega)]) rfl
        · refine wa_iload_n (pc' := 40) dX8_letterAt_39 rfl rfl rfl ?_
          refine wa_aload_n (pc' := 41) dX8_letterAt_40 rfl rfl rfl ?_
          refine wa_getfield (pc' := 44) (j := 0) zc_X8 lk_X8_9 dX8_letterAt_41 rfl (by decide) rfl rfl ?_
          refine wa_alen (pc' := 45) dX8_letterAt_44 rfl rfl (by decide) ?_
          refine wa_icmp_ge (tgt := 57) (pc' := 48) dX8_letterAt_45 (by decide) rfl (by omega) (by omega) (fun c45 => ?_) (fun c45 => ?_)
          · refine wa_iconst (pc' := 58) dX8_letterAt_57 rfl ?_
            refine wa_iret dX8_letterAt_58 rfl (by decide) (by decide) ?_
            first | exact absurd rfl c32 | exact absurd c32 (by decide) | exact absurd c36 (by omega) | exact absurd c45 (by omega) | exact zD_i (by rw [ltr, if_pos ⟨by omega, by omega⟩]) rfl | exact zD_i (by rw [ltr, if_neg (fun h => by omega)]) rfl
          · refine wa_aload_n (pc' := 49) dX8_letterAt_48 rfl rfl rfl ?_
            refine wa_getfield (pc' := 52) (j := 0) zc_X8 lk_X8_9 dX8_letterAt_49 rfl (by decide) rfl rfl ?_
            refine wa_iload_n (pc' := 53) dX8_letterAt_52 rfl rfl rfl ?_
            refine wa_caload (pc' := 54) dX8_letterAt_53 rfl rfl (by omega) (by omega) (by decide) ?_
            refine wa_goto (pc' := 58) dX8_letterAt_54 (by decide) ?_
            refine wa_iret dX8_letterAt_58 rfl (by decide) (by decide) ?_
            first | exact absurd rfl c32 | exact absurd c32 (by decide) | exact absurd c36 (by omega) | exact absurd c45 (by omega) | exact zD_i (by rw [ltr, if_pos ⟨by omega, by omega⟩]) rfl | exact zD_i (by rw [ltr, if_neg (fun h => by omega)]) rfl

set_option maxRecDepth 10000 in
set_option maxHeartbeats 1000000 in
theorem k_X8_get (L T F : Int → Int) (lc cc sg mn : Int) (i f : Int) (hi : 0 ≤ i ∧ i < 40) (hf : 0 ≤ f ∧ f < 5) : zMet q_X8_get 0 0 0 [zR 0, zI i, zI f] (wSh L T F lc cc sg mn) (zD (some (zI (F (i * 5 + f)))) (wSh L T F lc cc sg mn)) := by
  refine z_introF (ls := [(0, _), (1, _), (2, _)]) (by decide +kernel) rfl (fun _ _ => rfl) (fun _ _ => Nat.le_of_ble_eq_true rfl) ?_
  refine wa_iload_n (pc' := 1) dX8_get_0 rfl rfl rfl ?_
  refine wa_iconst (pc' := 2) dX8_get_1 rfl ?_
  refine wa_imul (pc' := 3) dX8_get_2 rfl ?_
  refine wa_iload_n (pc' := 4) dX8_get_3 rfl rfl rfl ?_
  refine wa_iadd (pc' := 5) dX8_get_4 rfl ?_
  refine wa_istore_n (pc' := 6) (ls' := [(3, _), (0, _), (1, _), (2, _)]) dX8_get_5 rfl rfl (by decide) rfl ?_
  refine wa_iload_n (pc' := 7) dX8_get_6 rfl rfl rfl ?_
  refine wa_if_lt (tgt := 28) (pc' := 10) dX8_get_7 (by decide) rfl (by omega) (fun c7 => ?_) (fun c7 => ?_)
  · exact absurd c7 (by omega)
  · refine wa_iload_n (pc' := 11) dX8_get_10 rfl rfl rfl ?_
    refine wa_aload_n (pc' := 12) dX8_get_11 rfl rfl rfl ?_
    refine wa_getfield (pc' := 15) (j := 3) zc_X8 lk_X8_23 dX8_get_12 rfl (by decide) rfl rfl ?_
    refine wa_alen (pc' := 16) dX8_get_15 rfl rfl (by decide) ?_
    refine wa_icmp_ge (tgt := 28) (pc' := 19) dX8_get_16 (by decide) rfl (by omega) (by omega) (fun c16 => ?_) (fun c16 => ?_)
    · exact absurd c16 (by omega)
    · refine wa_aload_n (pc' := 20) dX8_get_19 rfl rfl rfl ?_
      refine wa_getfield (pc' := 23) (j := 3) zc_X8 lk_X8_23 dX8_get_20 rfl (by decide) rfl rfl ?_
      refine wa_iload_n (pc' := 24) dX8_get_23 rfl rfl rfl ?_
      refine wa_iaload (pc' := 25) dX8_get_24 rfl rfl (by omega) (by omega) (by decide) ?_
      refine wa_goto (pc' := 29) dX8_get_25 (by decide) ?_
      refine wa_iret dX8_get_29 rfl (by decide) (by decide) ?_
      exact ⟨rfl, rfl⟩

set_option maxRecDepth 10000 in
set_option maxHeartbeats 1000000 in
theorem k_X8_set (L T F : Int → Int) (lc cc sg mn : Int) (i f v : Int) (hi : 0 ≤ i ∧ i < 40) (hf : 0 ≤ f ∧ f < 5) : zMet q_X8_set 0 0 0 [zR 0, zI i, zI f, zI v] (wSh L T F lc cc sg mn) (zD none (wSh L T (zup F (i * 5 + f) v) lc cc sg mn)) := by
  refine z_introF (ls := [(0, _), (1, _), (2, _), (3, _)]) (by decide +kernel) rfl (fun _ _ => rfl) (fun _ _ => Nat.le_of_ble_eq_true rfl) ?_
  refine wa_iload_n (pc' := 1) dX8_set_0 rfl rfl rfl ?_
  refine wa_iconst (pc' := 2) dX8_set_1 rfl ?_
  refine wa_imul (pc' := 3) dX8_set_2 rfl ?_
  refine wa_iload_n (pc' := 4) dX8_set_3 rfl rfl rfl ?_
  refine wa_iadd (pc' := 5) dX8_set_4 rfl ?_
  refine wa_istore (pc' := 7) (ls' := [(4, _), (0, _), (1, _), (2, _), (3, _)]) dX8_set_5 rfl (by decide) rfl ?_
  refine wa_iload (pc' := 9) dX8_set_7 rfl rfl ?_
  refine wa_if_lt (tgt := 30) (pc' := 12) dX8_set_9 (by decide) rfl (by omega) (fun c9 => ?_) (fun c9 => ?_)
  · exact absurd c9 (by omega)
  · refine wa_iload (pc' := 14) dX8_set_12 rfl rfl ?_
    refine wa_aload_n (pc' := 15) dX8_set_14 rfl rfl rfl ?_
    refine wa_getfield (pc' := 18) (j := 3) zc_X8 lk_X8_23 dX8_set_15 rfl (by decide) rfl rfl ?_
    refine wa_alen (pc' := 19) dX8_set_18 rfl rfl (by decide) ?_
    refine wa_icmp_ge (tgt := 30) (pc' := 22) dX8_set_19 (by decide) rfl (by omega) (by omega) (fun c19 => ?_) (fun c19 => ?_)
    · exact absurd c19 (by omega)
    · refine wa_aload_n (pc' := 23) dX8_set_22 rfl rfl rfl ?_
      refine wa_getfield (pc' := 26) (j := 3) zc_X8 lk_X8_23 dX8_set_23 rfl (by decide) rfl rfl ?_
      refine wa_iload (pc' := 28) dX8_set_26 rfl rfl ?_
      refine wa_iload_n (pc' := 29) dX8_set_28 rfl rfl rfl ?_
      refine wa_iastore (pc' := 30) (w' := [_, _, _, zA _ _ _]) dX8_set_29 rfl rfl (by omega) (by omega) (by decide) rfl ?_
      refine wa_vret dX8_set_30 rfl (by decide) (by decide) ?_
      exact ⟨rfl, rfl⟩

set_option maxRecDepth 10000 in
set_option maxHeartbeats 1000000 in
theorem k_X8_put (L T F : Int → Int) (lc cc sg mn : Int) (i r q b : Int) (hi : 0 ≤ i ∧ i < 40) : zMet q_X8_put 1 0 0 [zR 0, zI i, zI r, zI q, zI b] (wSh L T F lc cc sg mn) (zD none (wSh L T (putF F i r q b) lc cc sg mn)) := by
  refine z_introF (ls := [(0, _), (1, _), (2, _), (3, _), (4, _)]) (by decide +kernel) rfl (fun _ _ => rfl) (fun _ _ => Nat.le_of_ble_eq_true rfl) ?_
  refine wa_aload_n (pc' := 1) dX8_put_0 rfl rfl rfl ?_
  refine wa_iload_n (pc' := 2) dX8_put_1 rfl rfl rfl ?_
  refine wa_iconst (pc' := 3) dX8_put_2 rfl ?_
  refine wa_iload_n (pc' := 4) dX8_put_3 rfl rfl rfl ?_
  refine wa_dV (pc' := 7) (w' := [zO _ [_, _, _, _, _, _, _], zA _ _ _, zA _ _ _, zA _ _ _]) (k_X8_set _ _ _ _ _ _ _ _ _ _ (by omega) (by omega)) ok_X8_set lm_X8_46 dX8_put_4 rfl [0, 1, 2, 3] rfl (by decide) rfl rfl rfl rfl rfl (by decide) (Nat.le_of_ble_eq_true rfl) rfl (by decide) (by decide) rfl rfl rfl ?_
  refine wa_aload_n (pc' := 8) dX8_put_7 rfl rfl rfl ?_
  refine wa_iload_n (pc' := 9) dX8_put_8 rfl rfl rfl ?_
  refine wa_iconst (pc' := 10) dX8_put_9 rfl ?_
  refine wa_iload_n (pc' := 11) dX8_put_10 rfl rfl rfl ?_
  refine wa_dV (pc' := 14) (w' := [zO _ [_, _, _, _, _, _, _], zA _ _ _, zA _ _ _, zA _ _ _]) (k_X8_set _ _ _ _ _ _ _ _ _ _ (by omega) (by omega)) ok_X8_set lm_X8_46 dX8_put_11 rfl [0, 1, 2, 3] rfl (by decide) rfl rfl rfl rfl rfl (by decide) (Nat.le_of_ble_eq_true rfl) rfl (by decide) (by decide) rfl rfl rfl ?_
  refine wa_aload_n (pc' := 15) dX8_put_14 rfl rfl rfl ?_
  refine wa_iload_n (pc' := 16) dX8_put_15 rfl rfl rfl ?_
  refine wa_iconst (pc' := 17) dX8_put_16 rfl ?_
  refine wa_iload (pc' := 19) dX8_put_17 rfl rfl ?_
  refine wa_dV (pc' := 22) (w' := [zO _ [_, _, _, _, _, _, _], zA _ _ _, zA _ _ _, zA _ _ _]) (k_X8_set _ _ _ _ _ _ _ _ _ _ (by omega) (by omega)) ok_X8_set lm_X8_46 dX8_put_19 rfl [0, 1, 2, 3] rfl (by decide) rfl rfl rfl rfl rfl (by decide) (Nat.le_of_ble_eq_true rfl) rfl (by decide) (by decide) rfl rfl rfl ?_
  refine wa_vret dX8_put_22 rfl (by decide) (by decide) ?_
  exact ⟨rfl, rfl⟩

set_option maxRecDepth 10000 in
set_option maxHeartbeats 1000000 in
theorem k_X8_isUpTo (L T F : Int → Int) (lc cc sg mn : Int) (i l k : Int) (hi : 0 ≤ i ∧ i < 40) (hl : zin l) (hk : zin k) (hF : ∀ j : Int, 0 ≤ j → j < 200 → -1000 ≤ F j ∧ F j ≤ 1000) : zMet q_X8_isUpTo 1 0 0 [zR 0, zI i, zI l, zI k] (wSh L T F lc cc sg mn) (zD (some (zI (upT F i l k))) (wSh L T F lc cc sg mn)) := by
  refine z_introF (ls := [(0, _), (1, _), (2, _), (3, _)]) (by decide +kernel) rfl (fun _ _ => rfl) (fun _ _ => Nat.le_of_ble_eq_true rfl) ?_
  have f0 := hF (i * 5 + 0) (by omega) (by omega)
  have f1 := hF (i * 5 + 1) (by omega) (by omega)
  refine wa_aload_n (pc' := 1) dX8_isUpTo_0 rfl rfl rfl ?_
  refine wa_iload_n (pc' := 2) dX8_isUpTo_1 rfl rfl rfl ?_
  refine wa_iconst (pc' := 3) dX8_isUpTo_2 rfl ?_
  refine wa_rV (pc' := 6) (k_X8_get _ _ _ _ _ _ _ _ _ (by omega) (by omega)) ok_X8_get lm_X8_69 dX8_isUpTo_3 rfl [0, 1, 2, 3] rfl (by decide) rfl rfl rfl rfl rfl (by decide) (Nat.le_of_ble_eq_true rfl) rfl (by decide) (by decide) rfl ?_
  refine wa_istore (pc' := 8) (ls' := [(4, _), (0, _), (1, _), (2, _), (3, _)]) dX8_isUpTo_6 rfl (by decide) rfl ?_
  refine wa_iload (pc' := 10) dX8_isUpTo_8 rfl rfl ?_
  refine wa_iload_n (pc' := 11) dX8_isUpTo_10 rfl rfl rfl ?_
  refine wa_icmp_lt (tgt := 30) (pc' := 14) dX8_isUpTo_11 (by decide) rfl (by omega) (by omega) (fun c11 => ?_) (fun c11 => ?_)
  · refine wa_iconst (pc' := 31) dX8_isUpTo_30 rfl ?_
    refine wa_goto (pc' := 35) dX8_isUpTo_31 (by decide) ?_
    refine wa_zret dX8_isUpTo_35 rfl (by decide) (by decide) (by omega) ?_
    exact zD_i (by first | rw [upT, if_pos (by omega)] | rw [upT, if_neg (by omega)]) rfl
  · refine wa_iload (pc' := 16) dX8_isUpTo_14 rfl rfl ?_
    refine wa_iload_n (pc' := 17) dX8_isUpTo_16 rfl rfl rfl ?_
    refine wa_icmp_ne (tgt := 34) (pc' := 20) dX8_isUpTo_17 (by decide) rfl (by omega) (by omega) (fun c17 => ?_) (fun c17 => ?_)
    · refine wa_iconst (pc' := 35) dX8_isUpTo_34 rfl ?_
      refine wa_zret dX8_isUpTo_35 rfl (by decide) (by decide) (by omega) ?_
      exact zD_i (by first | rw [upT, if_pos (by omega)] | rw [upT, if_neg (by omega)]) rfl
    · refine wa_aload_n (pc' := 21) dX8_isUpTo_20 rfl rfl rfl ?_
      refine wa_iload_n (pc' := 22) dX8_isUpTo_21 rfl rfl rfl ?_
      refine wa_iconst (pc' := 23) dX8_isUpTo_22 rfl ?_
      refine wa_rV (pc' := 26) (k_X8_get _ _ _ _ _ _ _ _ _ (by omega) (by omega)) ok_X8_get lm_X8_69 dX8_isUpTo_23 rfl [0, 1, 2, 3] rfl (by decide) rfl rfl rfl rfl rfl (by decide) (Nat.le_of_ble_eq_true rfl) rfl (by decide) (by decide) rfl ?_
      refine wa_iload_n (pc' := 27) dX8_isUpTo_26 rfl rfl rfl ?_
      refine wa_icmp_gt (tgt := 34) (pc' := 30) dX8_isUpTo_27 (by decide) rfl (by omega) (by omega) (fun c27 => ?_) (fun c27 => ?_)
      · refine wa_iconst (pc' := 35) dX8_isUpTo_34 rfl ?_
        refine wa_zret dX8_isUpTo_35 rfl (by decide) (by decide) (by omega) ?_
        exact zD_i (by first | rw [upT, if_pos (by omega)] | rw [upT, if_neg (by omega)]) rfl
      · refine wa_iconst (pc' := 31) dX8_isUpTo_30 rfl ?_
        refine wa_goto (pc' := 35) dX8_isUpTo_31 (by decide) ?_
        refine wa_zret dX8_isUpTo_35 rfl (by decide) (by decide) (by omega) ?_
        exact zD_i (by first | rw [upT, if_pos (by omega)] | rw [upT, if_neg (by omega)]) rfl

set_option maxRecDepth 10000 in
set_option maxHeartbeats 1000000 in
theorem l_countUpTo (L T F : Int → Int) (lc cc sg mn : Int) (l k : Int) (hl : zin l) (hk : zin k) (hc : 0 ≤ cc ∧ cc ≤ 40) (hF : ∀ j : Int, 0 ≤ j → j < 200 → -1000 ≤ F j ∧ F j ≤ 1000) : ∀ (m : Nat) (i : Int), 0 ≤ i → i + m = cc → Wa q_X8_countUpTo 2 0 0 4 (zD (some (zI (cUT F l k m i))) (wSh L T F lc cc sg mn)) 2 [(3, zI i), (0, zR 0), (1, zI l), (2, zI k)] [] (wSh L T F lc cc sg mn) 0 0 := by
  intro m
  induction m with
  | zero =>
    intro i h0 hm
    refine wa_iload_n (pc' := 3) dX8_countUpTo_2 rfl rfl rfl ?_
    refine wa_aload_n (pc' := 4) dX8_countUpTo_3 rfl rfl rfl ?_
    refine wa_getfield (pc' := 7) (j := 4) zc_X8 lk_X8_32 dX8_countUpTo_4 rfl (by decide) rfl rfl ?_
    refine wa_icmp_ge (tgt := 26) (pc' := 10) dX8_countUpTo_7 (by decide) rfl (by omega) (by omega) (fun c7 => ?_) (fun c7 => ?_)
    · refine wa_iload_n (pc' := 27) dX8_countUpTo_26 rfl rfl rfl ?_
      refine wa_iret dX8_countUpTo_27 rfl (by decide) (by decide) ?_
      exact ⟨rfl, rfl⟩
    · exact absurd c7 (by omega)
  | succ m ih =>
    intro i h0 hm
    refine wa_iload_n (pc' := 3) dX8_countUpTo_2 rfl rfl rfl ?_
    refine wa_aload_n (pc' := 4) dX8_countUpTo_3 rfl rfl rfl ?_
    refine wa_getfield (pc' := 7) (j := 4) zc_X8 lk_X8_32 dX8_countUpTo_4 rfl (by decide) rfl rfl ?_
    refine wa_icmp_ge (tgt := 26) (pc' := 10) dX8_countUpTo_7 (by decide) rfl (by omega) (by omega) (fun c7 => ?_) (fun c7 => ?_)
    · exact absurd c7 (by omega)
    · refine wa_aload_n (pc' := 11) dX8_countUpTo_10 rfl rfl rfl ?_
      refine wa_iload_n (pc' := 12) dX8_countUpTo_11 rfl rfl rfl ?_
      refine wa_iload_n (pc' := 13) dX8_countUpTo_12 rfl rfl rfl ?_
      refine wa_iload_n (pc' := 14) dX8_countUpTo_13 rfl rfl rfl ?_
      refine wa_rV (pc' := 17) (k_X8_isUpTo _ _ _ _ _ _ _ _ _ _ (by omega) (by omega) (by omega) (by assumption)) ok_X8_isUpTo lm_X8_65 dX8_countUpTo_14 rfl [0, 1, 2, 3] rfl (by decide) rfl rfl rfl rfl rfl (by decide) (Nat.le_of_ble_eq_true rfl) rfl (by decide) (by decide) rfl ?_
      refine wa_if_eq (tgt := 26) (pc' := 20) dX8_countUpTo_17 (by decide) rfl (by unfold upT; split <;> omega) (fun c17 => ?_) (fun c17 => ?_)
      · rw [cUT, if_neg (show ¬ (F (i * 5 + 0) < l ∨ (F (i * 5 + 0) = l ∧ F (i * 5 + 1) ≤ k)) from fun h9 => by
          have h8 : upT F i l k = 1 := if_pos h9
          omega)]
        refine wa_iload_n (pc' := 27) dX8_countUpTo_26 rfl rfl rfl ?_
        refine wa_iret dX8_countUpTo_27 rfl (by decide) (by decide) ?_
        exact ⟨rfl, rfl⟩
      · rw [cUT, if_pos (show F (i * 5 + 0) < l ∨ (F (i * 5 + 0) = l ∧ F (i * 5 + 1) ≤ k) by
          by_cases h9 : F (i * 5 + 0) < l ∨ (F (i * 5 + 0) = l ∧ F (i * 5 + 1) ≤ k)
          · exact h9
          · exact absurd (if_neg h9) c17)]
        refine wa_iinc (pc' := 23) (ls' := [(3, _), (0, _), (1, _), (2, _)]) dX8_countUpTo_20 rfl rfl (by decide) rfl ?_
        refine wa_goto (pc' := 2) dX8_countUpTo_23 (by decide) ?_
        exact ih (i + 1) (by omega) (by omega)

set_option maxRecDepth 10000 in
set_option maxHeartbeats 1000000 in
theorem k_X8_countUpTo (L T F : Int → Int) (lc cc sg mn : Int) (l k : Int) (hl : zin l) (hk : zin k) (hc : 0 ≤ cc ∧ cc ≤ 40) (hF : ∀ j : Int, 0 ≤ j → j < 200 → -1000 ≤ F j ∧ F j ≤ 1000) : zMet q_X8_countUpTo 2 0 0 [zR 0, zI l, zI k] (wSh L T F lc cc sg mn) (zD (some (zI (cUT F l k cc.toNat 0))) (wSh L T F lc cc sg mn)) := by
  refine z_introF (ls := [(0, _), (1, _), (2, _)]) (by decide +kernel) rfl (fun _ _ => rfl) (fun _ _ => Nat.le_of_ble_eq_true rfl) ?_
  refine wa_iconst (pc' := 1) dX8_countUpTo_0 rfl ?_
  refine wa_istore_n (pc' := 2) (ls' := [(3, _), (0, _), (1, _), (2, _)]) dX8_countUpTo_1 rfl rfl (by decide) rfl ?_
  exact l_countUpTo L T F lc cc sg mn l k hl hk hc hF cc.toNat 0 (by omega) (by omega)

set_option maxRecDepth 10000 in
set_option maxHeartbeats 1000000 in
theorem k_X8_isAt (L T F : Int → Int) (lc cc sg mn : Int) (i l k : Int) (hi : 0 ≤ i ∧ i < 40) (hl : zin l) (hk : zin k) (hF : ∀ j : Int, 0 ≤ j → j < 200 → -1000 ≤ F j ∧ F j ≤ 1000) : zMet q_X8_isAt 1 0 0 [zR 0, zI i, zI l, zI k] (wSh L T F lc cc sg mn) (zD (some (zI (if F (i * 5 + 0) = l ∧ F (i * 5 + 1) = k then 1 else 0))) (wSh L T F lc cc sg mn)) := by
  refine z_introF (ls := [(0, _), (1, _), (2, _), (3, _)]) (by decide +kernel) rfl (fun _ _ => rfl) (fun _ _ => Nat.le_of_ble_eq_true rfl) ?_
  have f0 := hF (i * 5 + 0) (by omega) (by omega)
  have f1 := hF (i * 5 + 1) (by omega) (by omega)
  refine wa_aload_n (pc' := 1) dX8_isAt_0 rfl rfl rfl ?_
  refine wa_iload_n (pc' := 2) dX8_isAt_1 rfl rfl rfl ?_
  refine wa_iconst (pc' := 3) dX8_isAt_2 rfl ?_
  refine wa_rV (pc' := 6) (k_X8_get _ _ _ _ _ _ _ _ _ (by omega) (by omega)) ok_X8_get lm_X8_69 dX8_isAt_3 rfl [0, 1, 2, 3] rfl (by decide) rfl rfl rfl rfl rfl (by decide) (Nat.le_of_ble_eq_true rfl) rfl (by decide) (by decide) rfl ?_
  refine wa_iload_n (pc' := 7) dX8_isAt_6 rfl rfl rfl ?_
  refine wa_icmp_ne (tgt := 24) (pc' := 10) dX8_isAt_7 (by decide) rfl (by omega) (by omega) (fun c7 => ?_) (fun c7 => ?_)
  · refine wa_iconst (pc' := 25) dX8_isAt_24 rfl ?_
    refine wa_zret dX8_isAt_25 rfl (by decide) (by decide) (by omega) ?_
    exact zD_i (by first | rw [if_pos (by omega)] | rw [if_neg (by omega)]) rfl
  · refine wa_aload_n (pc' := 11) dX8_isAt_10 rfl rfl rfl ?_
    refine wa_iload_n (pc' := 12) dX8_isAt_11 rfl rfl rfl ?_
    refine wa_iconst (pc' := 13) dX8_isAt_12 rfl ?_
    refine wa_rV (pc' := 16) (k_X8_get _ _ _ _ _ _ _ _ _ (by omega) (by omega)) ok_X8_get lm_X8_69 dX8_isAt_13 rfl [0, 1, 2, 3] rfl (by decide) rfl rfl rfl rfl rfl (by decide) (Nat.le_of_ble_eq_true rfl) rfl (by decide) (by decide) rfl ?_
    refine wa_iload_n (pc' := 17) dX8_isAt_16 rfl rfl rfl ?_
    refine wa_icmp_ne (tgt := 24) (pc' := 20) dX8_isAt_17 (by decide) rfl (by omega) (by omega) (fun c17 => ?_) (fun c17 => ?_)
    · refine wa_iconst (pc' := 25) dX8_isAt_24 rfl ?_
      refine wa_zret dX8_isAt_25 rfl (by decide) (by decide) (by omega) ?_
      exact zD_i (by first | rw [if_pos (by omega)] | rw [if_neg (by omega)]) rfl
    · refine wa_iconst (pc' := 21) dX8_isAt_20 rfl ?_
      refine wa_goto (pc' := 25) dX8_isAt_21 (by decide) ?_
      refine wa_zret dX8_isAt_25 rfl (by decide) (by decide) (by omega) ?_
      exact zD_i (by first | rw [if_pos (by omega)] | rw [if_neg (by omega)]) rfl

set_option maxRecDepth 10000 in
set_option maxHeartbeats 1000000 in
theorem k_X8_tonesOf (L T F : Int → Int) (lc cc sg mn : Int) (i : Int) (hi : 0 ≤ i ∧ i < 40) (hr : -1000 ≤ F (i * 5 + 2) ∧ F (i * 5 + 2) ≤ 1000) (hq : 0 ≤ F (i * 5 + 3) ∧ F (i * 5 + 3) < 10) (hb : -1000 ≤ F (i * 5 + 4) ∧ F (i * 5 + 4) ≤ 1000) : zMet q_X8_tonesOf 2 0 0 [zR 0, zI i] (wSh L T F lc cc sg mn) (zD (some (zI (toneF (F (i * 5 + 2)) (F (i * 5 + 3)) (F (i * 5 + 4))))) (wSh L T F lc cc sg mn)) := by
  refine z_introF (ls := [(0, _), (1, _)]) (by decide +kernel) rfl (fun _ _ => rfl) (fun _ _ => Nat.le_of_ble_eq_true rfl) ?_
  refine wa_aload_n (pc' := 1) dX8_tonesOf_0 rfl rfl rfl ?_
  refine wa_iload_n (pc' := 2) dX8_tonesOf_1 rfl rfl rfl ?_
  refine wa_iconst (pc' := 3) dX8_tonesOf_2 rfl ?_
  refine wa_rV (pc' := 6) (k_X8_get _ _ _ _ _ _ _ _ _ (by omega) (by omega)) ok_X8_get lm_X8_69 dX8_tonesOf_3 rfl [0, 1, 2, 3] rfl (by decide) rfl rfl rfl rfl rfl (by decide) (Nat.le_of_ble_eq_true rfl) rfl (by decide) (by decide) rfl ?_
  refine wa_dS (pc' := 9) (w' := [_, _, _, _]) (k_X4_pitchClass _ (by omega)) ok_X4_pitchClass lm_X8_72 dX8_tonesOf_6 rfl [] rfl (by decide) rfl rfl (by decide) (Nat.le_of_ble_eq_true rfl) rfl (by decide) (by decide) rfl rfl rfl ?_
  refine wa_istore_n (pc' := 10) (ls' := [(2, _), (0, _), (1, _)]) dX8_tonesOf_9 rfl rfl (by decide) rfl ?_
  refine wa_aload_n (pc' := 11) dX8_tonesOf_10 rfl rfl rfl ?_
  refine wa_iload_n (pc' := 12) dX8_tonesOf_11 rfl rfl rfl ?_
  refine wa_iconst (pc' := 13) dX8_tonesOf_12 rfl ?_
  refine wa_rV (pc' := 16) (k_X8_get _ _ _ _ _ _ _ _ _ (by omega) (by omega)) ok_X8_get lm_X8_69 dX8_tonesOf_13 rfl [0, 1, 2, 3] rfl (by decide) rfl rfl rfl rfl rfl (by decide) (Nat.le_of_ble_eq_true rfl) rfl (by decide) (by decide) rfl ?_
  refine wa_dS (pc' := 19) (w' := [_, _, _, _]) (k_X5_at _ (by omega)) ok_X5_at lm_X8_77 dX8_tonesOf_16 rfl [] rfl (by decide) rfl rfl (by decide) (Nat.le_of_ble_eq_true rfl) rfl (by decide) (by decide) rfl rfl rfl ?_
  refine wa_iload_n (pc' := 20) dX8_tonesOf_19 rfl rfl rfl ?_
  refine wa_dK (pc' := 23) (w' := [_, _, _, _]) (k_X5_tonesOn _ (by omega) _) ok_X5_tonesOn lm_X8_83 dX8_tonesOf_20 rfl [] rfl (by decide) rfl rfl (zk_q (by omega)) (by decide) (Nat.le_of_ble_eq_true rfl) rfl (by decide) (by decide) rfl rfl rfl ?_
  refine wa_istore_n (pc' := 24) (ls' := [(3, _), (2, _), (0, _), (1, _)]) dX8_tonesOf_23 rfl rfl (by decide) rfl ?_
  refine wa_aload_n (pc' := 25) dX8_tonesOf_24 rfl rfl rfl ?_
  refine wa_iload_n (pc' := 26) dX8_tonesOf_25 rfl rfl rfl ?_
  refine wa_iconst (pc' := 27) dX8_tonesOf_26 rfl ?_
  refine wa_rV (pc' := 30) (k_X8_get _ _ _ _ _ _ _ _ _ (by omega) (by omega)) ok_X8_get lm_X8_69 dX8_tonesOf_27 rfl [0, 1, 2, 3] rfl (by decide) rfl rfl rfl rfl rfl (by decide) (Nat.le_of_ble_eq_true rfl) rfl (by decide) (by decide) rfl ?_
  refine wa_istore (pc' := 32) (ls' := [(4, _), (3, _), (2, _), (0, _), (1, _)]) dX8_tonesOf_30 rfl (by decide) rfl ?_
  refine wa_iload (pc' := 34) dX8_tonesOf_32 rfl rfl ?_
  refine wa_bipush (pc' := 36) dX8_tonesOf_34 rfl rfl ?_
  refine wa_icmp_ne (tgt := 43) (pc' := 39) dX8_tonesOf_36 (by decide) rfl (by omega) (by omega) (fun c36 => ?_) (fun c36 => ?_)
  · refine wa_iload_n (pc' := 44) dX8_tonesOf_43 rfl rfl rfl ?_
    refine wa_iconst (pc' := 45) dX8_tonesOf_44 rfl ?_
    refine wa_iload (pc' := 47) dX8_tonesOf_45 rfl rfl ?_
    refine wa_dS (pc' := 50) (w' := [_, _, _, _]) (k_X4_pitchClass _ (by omega)) ok_X4_pitchClass lm_X8_72 dX8_tonesOf_47 rfl [] rfl (by decide) rfl rfl (by decide) (Nat.le_of_ble_eq_true rfl) rfl (by decide) (by decide) rfl rfl rfl ?_
    refine wa_ishl (pc' := 51) dX8_tonesOf_50 rfl ?_
    refine wa_ior (pc' := 52) dX8_tonesOf_51 rfl ?_
    refine wa_iret dX8_tonesOf_52 rfl (by decide) (by decide) ?_
    first | exact zD_i (by rw [toneF, if_pos (by assumption)]) rfl | exact zD_i (by rw [toneF, if_neg (by assumption)]) rfl
  · refine wa_iload_n (pc' := 40) dX8_tonesOf_39 rfl rfl rfl ?_
    refine wa_goto (pc' := 52) dX8_tonesOf_40 (by decide) ?_
    refine wa_iret dX8_tonesOf_52 rfl (by decide) (by decide) ?_
    first | exact zD_i (by rw [toneF, if_pos (by assumption)]) rfl | exact zD_i (by rw [toneF, if_neg (by assumption)]) rfl

set_option maxRecDepth 10000 in
set_option maxHeartbeats 1000000 in
theorem k_X8_writeName (L T F : Int → Int) (lc cc sg mn : Int) (r : zRw) (i : Int) (hi : 0 ≤ i ∧ i < 40) (hr : -1000 ≤ F (i * 5 + 2) ∧ F (i * 5 + 2) ≤ 1000) (hq : 0 ≤ F (i * 5 + 3) ∧ F (i * 5 + 3) < 10) (hb : -1000 ≤ F (i * 5 + 4) ∧ F (i * 5 + 4) ≤ 1000) (h0 : 0 ≤ r.1) (h1 : r.1 + (nameL (F (i * 5 + 2)) (F (i * 5 + 3)) (F (i * 5 + 4))).length ≤ 680) : zMet q_X8_writeName 5 0 0 [zR 0, zI i, zR 4] (wSh L T F lc cc sg mn ++ [zO 3 [zR 5, zI r.1], zA 1 680 r.2]) (zD none (wSh L T F lc cc sg mn ++ [zO 3 [zR 5, zI (rL r (nameL (F (i * 5 + 2)) (F (i * 5 + 3)) (F (i * 5 + 4)))).1], zA 1 680 (rL r (nameL (F (i * 5 + 2)) (F (i * 5 + 3)) (F (i * 5 + 4)))).2])) := by
  refine z_introF (ls := [(0, _), (1, _), (2, _)]) (by decide +kernel) rfl (fun _ _ => rfl) (fun _ _ => Nat.le_of_ble_eq_true rfl) ?_
  have hnl : (nameL (F (i * 5 + 2)) (F (i * 5 + 3)) (F (i * 5 + 4))).length = (noteL (F (i * 5 + 2))).length + ((zBytes.getD (F (i * 5 + 3)).toNat []).length + (if F (i * 5 + 4) = 100 then [] else 47 :: noteL (F (i * 5 + 4))).length) := by simp only [nameL, List.length_append]
  have e1 := rL_len r (noteL (F (i * 5 + 2)))
  have e2 := rL_len (rL r (noteL (F (i * 5 + 2)))) (zBytes.getD (F (i * 5 + 3)).toNat [])
  refine wa_aload_n (pc' := 1) dX8_writeName_0 rfl rfl rfl ?_
  refine wa_iload_n (pc' := 2) dX8_writeName_1 rfl rfl rfl ?_
  refine wa_iconst (pc' := 3) dX8_writeName_2 rfl ?_
  refine wa_rV (pc' := 6) (k_X8_get _ _ _ _ _ _ _ _ _ (by omega) (by omega)) ok_X8_get lm_X8_69 dX8_writeName_3 rfl [0, 1, 2, 3] rfl (by decide) rfl rfl rfl rfl rfl (by decide) (Nat.le_of_ble_eq_true rfl) rfl (by decide) (by decide) rfl ?_
  refine wa_aload_n (pc' := 7) dX8_writeName_6 rfl rfl rfl ?_
  refine wa_dS (pc' := 10) (w' := [_, _, _, _, zO _ [_, _], zA _ _ _]) (k_X4_write (F (i * 5 + 2)) r (by omega) (by omega) (by omega)) ok_X4_write lm_X8_86 dX8_writeName_7 rfl [4, 5] rfl (by decide) rfl rfl (by decide) (Nat.le_of_ble_eq_true rfl) rfl (by decide) (by decide) rfl rfl rfl ?_
  refine wa_aload_n (pc' := 11) dX8_writeName_10 rfl rfl rfl ?_
  refine wa_aload_n (pc' := 12) dX8_writeName_11 rfl rfl rfl ?_
  refine wa_iload_n (pc' := 13) dX8_writeName_12 rfl rfl rfl ?_
  refine wa_iconst (pc' := 14) dX8_writeName_13 rfl ?_
  refine wa_rV (pc' := 17) (k_X8_get _ _ _ _ _ _ _ _ _ (by omega) (by omega)) ok_X8_get lm_X8_69 dX8_writeName_14 rfl [0, 1, 2, 3] rfl (by decide) rfl rfl rfl rfl rfl (by decide) (Nat.le_of_ble_eq_true rfl) rfl (by decide) (by decide) rfl ?_
  refine wa_dS (pc' := 20) (w' := [_, _, _, _, _, _]) (k_X5_at _ (by omega)) ok_X5_at lm_X8_77 dX8_writeName_17 rfl [] rfl (by decide) rfl rfl (by decide) (Nat.le_of_ble_eq_true rfl) rfl (by decide) (by decide) rfl rfl rfl ?_
  refine wa_kgetN (q := "") (pc' := 23) (v := zK (11 + (F (i * 5 + 3)).toNat)) (zk_suffix (by omega)) lk_X8_90 dX8_writeName_20 rfl ?_
  refine wa_dV (pc' := 26) (w' := [_, _, _, _, zO _ [_, _], zA _ _ _]) (k_X7_addAll (rL r (noteL (F (i * 5 + 2)))) (F (i * 5 + 3)).toNat (by omega) (by omega) (by omega)) ok_X7_addAll lm_X8_94 dX8_writeName_23 rfl [4, 5] rfl (by decide) rfl rfl rfl rfl rfl (by decide) (Nat.le_of_ble_eq_true rfl) rfl (by decide) (by decide) rfl rfl rfl ?_
  refine wa_aload_n (pc' := 27) dX8_writeName_26 rfl rfl rfl ?_
  refine wa_iload_n (pc' := 28) dX8_writeName_27 rfl rfl rfl ?_
  refine wa_iconst (pc' := 29) dX8_writeName_28 rfl ?_
  refine wa_rV (pc' := 32) (k_X8_get _ _ _ _ _ _ _ _ _ (by omega) (by omega)) ok_X8_get lm_X8_69 dX8_writeName_29 rfl [0, 1, 2, 3] rfl (by decide) rfl rfl rfl rfl rfl (by decide) (Nat.le_of_ble_eq_true rfl) rfl (by decide) (by decide) rfl ?_
  refine wa_istore_n (pc' := 33) (ls' := [(3, _), (0, _), (1, _), (2, _)]) dX8_writeName_32 rfl rfl (by decide) rfl ?_
  refine wa_iload_n (pc' := 34) dX8_writeName_33 rfl rfl rfl ?_
  refine wa_bipush (pc' := 36) dX8_writeName_34 rfl rfl ?_
  refine wa_icmp_eq (tgt := 50) (pc' := 39) dX8_writeName_36 (by decide) rfl (by omega) (by omega) (fun c36 => ?_) (fun c36 => ?_)
  · rw [if_pos c36] at hnl
    refine wa_vret dX8_writeName_50 rfl (by decide) (by decide) ?_
    first | exact zD_i rfl (by rw [nameL, if_pos (by assumption), List.append_nil, rL_app]; rfl) | exact zD_i rfl (by rw [nameL, if_neg (by assumption), rL_app, rL_app]; rfl)
  · rw [if_neg c36, List.length_cons] at hnl
    refine wa_aload_n (pc' := 40) dX8_writeName_39 rfl rfl rfl ?_
    refine wa_bipush (pc' := 42) dX8_writeName_40 rfl rfl ?_
    refine wa_dV (pc' := 45) (w' := [_, _, _, _, zO _ [_, _], zA _ _ _]) (k_X7_add (rL (rL r (noteL (F (i * 5 + 2)))) (zBytes.getD (F (i * 5 + 3)).toNat [])) (by omega) (by omega) 47 (by omega)) ok_X7_add lm_X8_100 dX8_writeName_42 rfl [4, 5] rfl (by decide) rfl rfl rfl rfl rfl (by decide) (Nat.le_of_ble_eq_true rfl) rfl (by decide) (by decide) rfl rfl rfl ?_
    refine wa_iload_n (pc' := 46) dX8_writeName_45 rfl rfl rfl ?_
    refine wa_aload_n (pc' := 47) dX8_writeName_46 rfl rfl rfl ?_
    refine wa_dS (pc' := 50) (w' := [_, _, _, _, zO _ [_, _], zA _ _ _]) (k_X4_write (F (i * 5 + 4)) (rA (rL (rL r (noteL (F (i * 5 + 2)))) (zBytes.getD (F (i * 5 + 3)).toNat [])) 47) (by omega) (by simp only [rA]; omega) (by simp only [rA]; omega)) ok_X4_write lm_X8_86 dX8_writeName_47 rfl [4, 5] rfl (by decide) rfl rfl (by decide) (Nat.le_of_ble_eq_true rfl) rfl (by decide) (by decide) rfl rfl rfl ?_
    refine wa_vret dX8_writeName_50 rfl (by decide) (by decide) ?_
    first | exact zD_i rfl (by rw [nameL, if_pos (by assumption), List.append_nil, rL_app]; rfl) | exact zD_i rfl (by rw [nameL, if_neg (by assumption), rL_app, rL_app]; rfl)

set_option maxRecDepth 10000 in
set_option maxHeartbeats 1000000 in
theorem k_X8_addLetter (L T F : Int → Int) (lc cc sg mn : Int) (c : Int) (hc : 0 ≤ c ∧ c < 65536) (hl : 1 ≤ lc ∧ lc ≤ 201) (ht : 0 ≤ T lc ∧ T lc < 200) : zMet q_X8_addLetter 1 0 0 [zR 0, zI c] (wSh L T F lc cc sg mn) (zD none (wSh (zup L (T lc) c) (zup T lc (T lc + 1)) F lc cc sg mn)) := by
  refine z_introF (ls := [(0, _), (1, _)]) (by decide +kernel) rfl (fun _ _ => rfl) (fun _ _ => Nat.le_of_ble_eq_true rfl) ?_
  refine wa_aload_n (pc' := 1) dX8_addLetter_0 rfl rfl rfl ?_
  refine wa_aload_n (pc' := 2) dX8_addLetter_1 rfl rfl rfl ?_
  refine wa_getfield (pc' := 5) (j := 2) zc_X8 lk_X8_19 dX8_addLetter_2 rfl (by decide) rfl rfl ?_
  refine wa_rV (pc' := 8) (k_X8_startOf _ _ _ _ _ _ _ _ (by omega)) ok_X8_startOf lm_X8_42 dX8_addLetter_5 rfl [0, 1, 2, 3] rfl (by decide) rfl rfl rfl rfl rfl (by decide) (Nat.le_of_ble_eq_true rfl) rfl (by decide) (by decide) rfl ?_
  rw [stO_in (T := T) (show 0 ≤ lc ∧ lc < 202 by omega)]
  refine wa_istore_n (pc' := 9) (ls' := [(2, _), (0, _), (1, _)]) dX8_addLetter_8 rfl rfl (by decide) rfl ?_
  refine wa_iload_n (pc' := 10) dX8_addLetter_9 rfl rfl rfl ?_
  refine wa_if_lt (tgt := 60) (pc' := 13) dX8_addLetter_10 (by decide) rfl (by omega) (fun c10 => ?_) (fun c10 => ?_)
  · exact absurd c10 (by omega)
  · refine wa_iload_n (pc' := 14) dX8_addLetter_13 rfl rfl rfl ?_
    refine wa_aload_n (pc' := 15) dX8_addLetter_14 rfl rfl rfl ?_
    refine wa_getfield (pc' := 18) (j := 0) zc_X8 lk_X8_9 dX8_addLetter_15 rfl (by decide) rfl rfl ?_
    refine wa_alen (pc' := 19) dX8_addLetter_18 rfl rfl (by decide) ?_
    refine wa_icmp_ge (tgt := 60) (pc' := 22) dX8_addLetter_19 (by decide) rfl (by omega) (by omega) (fun c19 => ?_) (fun c19 => ?_)
    · exact absurd c19 (by omega)
    · refine wa_aload_n (pc' := 23) dX8_addLetter_22 rfl rfl rfl ?_
      refine wa_getfield (pc' := 26) (j := 2) zc_X8 lk_X8_19 dX8_addLetter_23 rfl (by decide) rfl rfl ?_
      refine wa_if_lt (tgt := 60) (pc' := 29) dX8_addLetter_26 (by decide) rfl (by omega) (fun c26 => ?_) (fun c26 => ?_)
      · exact absurd c26 (by omega)
      · refine wa_aload_n (pc' := 30) dX8_addLetter_29 rfl rfl rfl ?_
        refine wa_getfield (pc' := 33) (j := 2) zc_X8 lk_X8_19 dX8_addLetter_30 rfl (by decide) rfl rfl ?_
        refine wa_aload_n (pc' := 34) dX8_addLetter_33 rfl rfl rfl ?_
        refine wa_getfield (pc' := 37) (j := 1) zc_X8 lk_X8_15 dX8_addLetter_34 rfl (by decide) rfl rfl ?_
        refine wa_alen (pc' := 38) dX8_addLetter_37 rfl rfl (by decide) ?_
        refine wa_icmp_ge (tgt := 60) (pc' := 41) dX8_addLetter_38 (by decide) rfl (by omega) (by omega) (fun c38 => ?_) (fun c38 => ?_)
        · exact absurd c38 (by omega)
        · refine wa_aload_n (pc' := 42) dX8_addLetter_41 rfl rfl rfl ?_
          refine wa_getfield (pc' := 45) (j := 0) zc_X8 lk_X8_9 dX8_addLetter_42 rfl (by decide) rfl rfl ?_
          refine wa_iload_n (pc' := 46) dX8_addLetter_45 rfl rfl rfl ?_
          refine wa_iload_n (pc' := 47) dX8_addLetter_46 rfl rfl rfl ?_
          refine wa_castore (pc' := 48) (w' := [_, zA _ _ _, _, _]) dX8_addLetter_47 rfl rfl (by omega) (by omega) (by decide) (by omega) (by omega) rfl ?_
          refine wa_aload_n (pc' := 49) dX8_addLetter_48 rfl rfl rfl ?_
          refine wa_getfield (pc' := 52) (j := 1) zc_X8 lk_X8_15 dX8_addLetter_49 rfl (by decide) rfl rfl ?_
          refine wa_aload_n (pc' := 53) dX8_addLetter_52 rfl rfl rfl ?_
          refine wa_getfield (pc' := 56) (j := 2) zc_X8 lk_X8_19 dX8_addLetter_53 rfl (by decide) rfl rfl ?_
          refine wa_iload_n (pc' := 57) dX8_addLetter_56 rfl rfl rfl ?_
          refine wa_iconst (pc' := 58) dX8_addLetter_57 rfl ?_
          refine wa_iadd (pc' := 59) dX8_addLetter_58 rfl ?_
          refine wa_iastore (pc' := 60) (w' := [_, _, zA _ _ _, _]) dX8_addLetter_59 rfl rfl (by omega) (by omega) (by decide) rfl ?_
          refine wa_vret dX8_addLetter_60 rfl (by decide) (by decide) ?_
          exact ⟨rfl, rfl⟩

set_option maxRecDepth 10000 in
set_option maxHeartbeats 1000000 in
theorem k_X8_beginLine (L T F : Int → Int) (lc cc sg mn : Int) (hl : 1 ≤ lc ∧ lc < 201) : zMet q_X8_beginLine 1 0 0 [zR 0] (wSh L T F lc cc sg mn) (zD none (wSh L (zup T (lc + 1) (T lc)) F (lc + 1) cc sg mn)) := by
  refine z_introF (ls := [(0, _)]) (by decide +kernel) rfl (fun _ _ => rfl) (fun _ _ => Nat.le_of_ble_eq_true rfl) ?_
  refine wa_aload_n (pc' := 1) dX8_beginLine_0 rfl rfl rfl ?_
  refine wa_getfield (pc' := 4) (j := 2) zc_X8 lk_X8_19 dX8_beginLine_1 rfl (by decide) rfl rfl ?_
  refine wa_iconst (pc' := 5) dX8_beginLine_4 rfl ?_
  refine wa_iadd (pc' := 6) dX8_beginLine_5 rfl ?_
  refine wa_istore_n (pc' := 7) (ls' := [(1, _), (0, _)]) dX8_beginLine_6 rfl rfl (by decide) rfl ?_
  refine wa_iload_n (pc' := 8) dX8_beginLine_7 rfl rfl rfl ?_
  refine wa_if_lt (tgt := 39) (pc' := 11) dX8_beginLine_8 (by decide) rfl (by omega) (fun c8 => ?_) (fun c8 => ?_)
  · exact absurd c8 (by omega)
  · refine wa_iload_n (pc' := 12) dX8_beginLine_11 rfl rfl rfl ?_
    refine wa_aload_n (pc' := 13) dX8_beginLine_12 rfl rfl rfl ?_
    refine wa_getfield (pc' := 16) (j := 1) zc_X8 lk_X8_15 dX8_beginLine_13 rfl (by decide) rfl rfl ?_
    refine wa_alen (pc' := 17) dX8_beginLine_16 rfl rfl (by decide) ?_
    refine wa_icmp_ge (tgt := 39) (pc' := 20) dX8_beginLine_17 (by decide) rfl (by omega) (by omega) (fun c17 => ?_) (fun c17 => ?_)
    · exact absurd c17 (by omega)
    · refine wa_aload_n (pc' := 21) dX8_beginLine_20 rfl rfl rfl ?_
      refine wa_getfield (pc' := 24) (j := 1) zc_X8 lk_X8_15 dX8_beginLine_21 rfl (by decide) rfl rfl ?_
      refine wa_iload_n (pc' := 25) dX8_beginLine_24 rfl rfl rfl ?_
      refine wa_aload_n (pc' := 26) dX8_beginLine_25 rfl rfl rfl ?_
      refine wa_aload_n (pc' := 27) dX8_beginLine_26 rfl rfl rfl ?_
      refine wa_getfield (pc' := 30) (j := 2) zc_X8 lk_X8_19 dX8_beginLine_27 rfl (by decide) rfl rfl ?_
      refine wa_rV (pc' := 33) (k_X8_startOf _ _ _ _ _ _ _ _ (by omega)) ok_X8_startOf lm_X8_42 dX8_beginLine_30 rfl [0, 1, 2, 3] rfl (by decide) rfl rfl rfl rfl rfl (by decide) (Nat.le_of_ble_eq_true rfl) rfl (by decide) (by decide) rfl ?_
      rw [stO_in (T := T) (show 0 ≤ lc ∧ lc < 202 by omega)]
      refine wa_iastore (pc' := 34) (w' := [_, _, zA _ _ _, _]) dX8_beginLine_33 rfl rfl (by omega) (by omega) (by decide) rfl ?_
      refine wa_aload_n (pc' := 35) dX8_beginLine_34 rfl rfl rfl ?_
      refine wa_iload_n (pc' := 36) dX8_beginLine_35 rfl rfl rfl ?_
      refine wa_putfield (pc' := 39) (j := 2) (w' := [zO _ [_, _, _, _, _, _, _], _, _, _]) zc_X8 lk_X8_19 dX8_beginLine_36 rfl (by decide) rfl rfl (Nat.le_of_ble_eq_true rfl) True.intro rfl ?_
      refine wa_vret dX8_beginLine_39 rfl (by decide) (by decide) ?_
      exact ⟨rfl, rfl⟩

set_option maxRecDepth 10000 in
set_option maxHeartbeats 1000000 in
theorem k_X8_clear (L T F : Int → Int) (lc cc sg mn : Int) : zMet q_X8_clear 0 0 0 [zR 0] (wSh L T F lc cc sg mn) (zD none (wSh L (zup (zup T 0 0) 1 0) F 1 0 sg mn)) := by
  refine z_introF (ls := [(0, _)]) (by decide +kernel) rfl (fun _ _ => rfl) (fun _ _ => Nat.le_of_ble_eq_true rfl) ?_
  refine wa_aload_n (pc' := 1) dX8_clear_0 rfl rfl rfl ?_
  refine wa_getfield (pc' := 4) (j := 1) zc_X8 lk_X8_15 dX8_clear_1 rfl (by decide) rfl rfl ?_
  refine wa_iconst (pc' := 5) dX8_clear_4 rfl ?_
  refine wa_iconst (pc' := 6) dX8_clear_5 rfl ?_
  refine wa_iastore (pc' := 7) (w' := [_, _, zA _ _ _, _]) dX8_clear_6 rfl rfl (by omega) (by omega) (by decide) rfl ?_
  refine wa_aload_n (pc' := 8) dX8_clear_7 rfl rfl rfl ?_
  refine wa_getfield (pc' := 11) (j := 1) zc_X8 lk_X8_15 dX8_clear_8 rfl (by decide) rfl rfl ?_
  refine wa_iconst (pc' := 12) dX8_clear_11 rfl ?_
  refine wa_iconst (pc' := 13) dX8_clear_12 rfl ?_
  refine wa_iastore (pc' := 14) (w' := [_, _, zA _ _ _, _]) dX8_clear_13 rfl rfl (by omega) (by omega) (by decide) rfl ?_
  refine wa_aload_n (pc' := 15) dX8_clear_14 rfl rfl rfl ?_
  refine wa_iconst (pc' := 16) dX8_clear_15 rfl ?_
  refine wa_putfield (pc' := 19) (j := 2) (w' := [zO _ [_, _, _, _, _, _, _], _, _, _]) zc_X8 lk_X8_19 dX8_clear_16 rfl (by decide) rfl rfl (Nat.le_of_ble_eq_true rfl) True.intro rfl ?_
  refine wa_aload_n (pc' := 20) dX8_clear_19 rfl rfl rfl ?_
  refine wa_iconst (pc' := 21) dX8_clear_20 rfl ?_
  refine wa_putfield (pc' := 24) (j := 4) (w' := [zO _ [_, _, _, _, _, _, _], _, _, _]) zc_X8 lk_X8_32 dX8_clear_21 rfl (by decide) rfl rfl (Nat.le_of_ble_eq_true rfl) True.intro rfl ?_
  refine wa_vret dX8_clear_24 rfl (by decide) (by decide) ?_
  exact ⟨rfl, rfl⟩

set_option maxRecDepth 10000 in
set_option maxHeartbeats 1000000 in
theorem k_X8_insert (L T F : Int → Int) (lc cc sg mn : Int) (l k r q b : Int) (hl : zin l) (hk : zin k) (hc : 0 ≤ cc ∧ cc < 40) (hF : ∀ j : Int, 0 ≤ j → j < 200 → -1000 ≤ F j ∧ F j ≤ 1000) : zMet q_X8_insert 3 0 0 [zR 0, zI l, zI k, zI r, zI q, zI b] (wSh L T F lc cc sg mn) (zD (some (zI (cUT F l k cc.toNat 0))) (wSh L T (insF F (cUT F l k cc.toNat 0) cc l k r q b) lc (cc + 1) sg mn)) := by
  refine z_introF (ls := [(0, _), (1, _), (2, _), (3, _), (4, _), (5, _)]) (by decide +kernel) rfl (fun _ _ => rfl) (fun _ _ => Nat.le_of_ble_eq_true rfl) ?_
  have hu := cUT_le F l k cc.toNat 0
  refine wa_aload_n (pc' := 1) dX8_insert_0 rfl rfl rfl ?_
  refine wa_iload_n (pc' := 2) dX8_insert_1 rfl rfl rfl ?_
  refine wa_iload_n (pc' := 3) dX8_insert_2 rfl rfl rfl ?_
  refine wa_rV (pc' := 6) (k_X8_countUpTo _ _ _ _ _ _ _ _ _ (by omega) (by omega) (by omega) (by assumption)) ok_X8_countUpTo lm_X8_57 dX8_insert_3 rfl [0, 1, 2, 3] rfl (by decide) rfl rfl rfl rfl rfl (by decide) (Nat.le_of_ble_eq_true rfl) rfl (by decide) (by decide) rfl ?_
  refine wa_istore (pc' := 8) (ls' := [(6, _), (0, _), (1, _), (2, _), (3, _), (4, _), (5, _)]) dX8_insert_6 rfl (by decide) rfl ?_
  refine wa_aload_n (pc' := 9) dX8_insert_8 rfl rfl rfl ?_
  refine wa_getfield (pc' := 12) (j := 4) zc_X8 lk_X8_32 dX8_insert_9 rfl (by decide) rfl rfl ?_
  refine wa_bipush (pc' := 14) dX8_insert_12 rfl rfl ?_
  refine wa_icmp_ge (tgt := 97) (pc' := 17) dX8_insert_14 (by decide) rfl (by omega) (by omega) (fun c14 => ?_) (fun c14 => ?_)
  · exact absurd c14 (by omega)
  · refine wa_iload (pc' := 19) dX8_insert_17 rfl rfl ?_
    refine wa_aload_n (pc' := 20) dX8_insert_19 rfl rfl rfl ?_
    refine wa_getfield (pc' := 23) (j := 4) zc_X8 lk_X8_32 dX8_insert_20 rfl (by decide) rfl rfl ?_
    refine wa_icmp_gt (tgt := 97) (pc' := 26) dX8_insert_23 (by decide) rfl (by omega) (by omega) (fun c23 => ?_) (fun c23 => ?_)
    · exact absurd c23 (by omega)
    · refine wa_aload_n (pc' := 27) dX8_insert_26 rfl rfl rfl ?_
      refine wa_getfield (pc' := 30) (j := 4) zc_X8 lk_X8_32 dX8_insert_27 rfl (by decide) rfl rfl ?_
      refine wa_iload (pc' := 32) dX8_insert_30 rfl rfl ?_
      refine wa_isub (pc' := 33) dX8_insert_32 rfl ?_
      refine wa_iconst (pc' := 34) dX8_insert_33 rfl ?_
      refine wa_imul (pc' := 35) dX8_insert_34 rfl ?_
      refine wa_istore (pc' := 37) (ls' := [(7, _), (6, _), (0, _), (1, _), (2, _), (3, _), (4, _), (5, _)]) dX8_insert_35 rfl (by decide) rfl ?_
      refine wa_aload_n (pc' := 38) dX8_insert_37 rfl rfl rfl ?_
      refine wa_getfield (pc' := 41) (j := 3) zc_X8 lk_X8_23 dX8_insert_38 rfl (by decide) rfl rfl ?_
      refine wa_iload (pc' := 43) dX8_insert_41 rfl rfl ?_
      refine wa_iconst (pc' := 44) dX8_insert_43 rfl ?_
      refine wa_imul (pc' := 45) dX8_insert_44 rfl ?_
      refine wa_aload_n (pc' := 46) dX8_insert_45 rfl rfl rfl ?_
      refine wa_getfield (pc' := 49) (j := 3) zc_X8 lk_X8_23 dX8_insert_46 rfl (by decide) rfl rfl ?_
      refine wa_iload (pc' := 51) dX8_insert_49 rfl rfl ?_
      refine wa_iconst (pc' := 52) dX8_insert_51 rfl ?_
      refine wa_iadd (pc' := 53) dX8_insert_52 rfl ?_
      refine wa_iconst (pc' := 54) dX8_insert_53 rfl ?_
      refine wa_imul (pc' := 55) dX8_insert_54 rfl ?_
      refine wa_iload (pc' := 57) dX8_insert_55 rfl rfl ?_
      refine wa_copyI (pc' := 60) (w' := [_, _, _, zA _ _ _]) dX8_insert_57 rfl lmc_X8_26 zl_nat zl_sta zl_sys rfl rfl (by omega) (by omega) (by omega) (by omega) (by omega) (by decide) (by decide) (by decide) (Nat.le_of_ble_eq_true rfl) rfl ?_
      refine wa_aload_n (pc' := 61) dX8_insert_60 rfl rfl rfl ?_
      refine wa_dup (pc' := 62) dX8_insert_61 rfl rfl ?_
      refine wa_getfield (pc' := 65) (j := 4) zc_X8 lk_X8_32 dX8_insert_62 rfl (by decide) rfl rfl ?_
      refine wa_iconst (pc' := 66) dX8_insert_65 rfl ?_
      refine wa_iadd (pc' := 67) dX8_insert_66 rfl ?_
      refine wa_putfield (pc' := 70) (j := 4) (w' := [zO _ [_, _, _, _, _, _, _], _, _, _]) zc_X8 lk_X8_32 dX8_insert_67 rfl (by decide) rfl rfl (Nat.le_of_ble_eq_true rfl) True.intro rfl ?_
      refine wa_aload_n (pc' := 71) dX8_insert_70 rfl rfl rfl ?_
      refine wa_iload (pc' := 73) dX8_insert_71 rfl rfl ?_
      refine wa_iconst (pc' := 74) dX8_insert_73 rfl ?_
      refine wa_iload_n (pc' := 75) dX8_insert_74 rfl rfl rfl ?_
      refine wa_dV (pc' := 78) (w' := [zO _ [_, _, _, _, _, _, _], zA _ _ _, zA _ _ _, zA _ _ _]) (k_X8_set _ _ _ _ _ _ _ _ _ _ (by omega) (by omega)) ok_X8_set lm_X8_46 dX8_insert_75 rfl [0, 1, 2, 3] rfl (by decide) rfl rfl rfl rfl rfl (by decide) (Nat.le_of_ble_eq_true rfl) rfl (by decide) (by decide) rfl rfl rfl ?_
      refine wa_aload_n (pc' := 79) dX8_insert_78 rfl rfl rfl ?_
      refine wa_iload (pc' := 81) dX8_insert_79 rfl rfl ?_
      refine wa_iconst (pc' := 82) dX8_insert_81 rfl ?_
      refine wa_iload_n (pc' := 83) dX8_insert_82 rfl rfl rfl ?_
      refine wa_dV (pc' := 86) (w' := [zO _ [_, _, _, _, _, _, _], zA _ _ _, zA _ _ _, zA _ _ _]) (k_X8_set _ _ _ _ _ _ _ _ _ _ (by omega) (by omega)) ok_X8_set lm_X8_46 dX8_insert_83 rfl [0, 1, 2, 3] rfl (by decide) rfl rfl rfl rfl rfl (by decide) (Nat.le_of_ble_eq_true rfl) rfl (by decide) (by decide) rfl rfl rfl ?_
      refine wa_aload_n (pc' := 87) dX8_insert_86 rfl rfl rfl ?_
      refine wa_iload (pc' := 89) dX8_insert_87 rfl rfl ?_
      refine wa_iload_n (pc' := 90) dX8_insert_89 rfl rfl rfl ?_
      refine wa_iload (pc' := 92) dX8_insert_90 rfl rfl ?_
      refine wa_iload (pc' := 94) dX8_insert_92 rfl rfl ?_
      refine wa_dV (pc' := 97) (w' := [zO _ [_, _, _, _, _, _, _], zA _ _ _, zA _ _ _, zA _ _ _]) (k_X8_put _ _ _ _ _ _ _ _ _ _ _ (by omega)) ok_X8_put lm_X8_61 dX8_insert_94 rfl [0, 1, 2, 3] rfl (by decide) rfl rfl rfl rfl rfl (by decide) (Nat.le_of_ble_eq_true rfl) rfl (by decide) (by decide) rfl rfl rfl ?_
      refine wa_iload (pc' := 99) dX8_insert_97 rfl rfl ?_
      refine wa_iret dX8_insert_99 rfl (by decide) (by decide) ?_
      exact ⟨rfl, rfl⟩

set_option maxRecDepth 10000 in
set_option maxHeartbeats 1000000 in
theorem k_X8_append (L T F : Int → Int) (lc cc sg mn : Int) (r q b : Int) (hl : 1 ≤ lc ∧ lc ≤ 201) (hc : 0 ≤ cc ∧ cc < 40) (hT : ∀ k : Int, 0 ≤ k → k ≤ 201 → 0 ≤ T k ∧ T k ≤ 200) (hF : ∀ j : Int, 0 ≤ j → j < 200 → -1000 ≤ F j ∧ F j ≤ 1000) : zMet q_X8_append 4 0 0 [zR 0, zI r, zI q, zI b] (wSh L T F lc cc sg mn) (zD none (wSh L T (insF F (cUT F (lc - 1) (T (lc - 1 + 1) - T (lc - 1)) cc.toNat 0) cc (lc - 1) (T (lc - 1 + 1) - T (lc - 1)) r q b) lc (cc + 1) sg mn)) := by
  refine z_introF (ls := [(0, _), (1, _), (2, _), (3, _)]) (by decide +kernel) rfl (fun _ _ => rfl) (fun _ _ => Nat.le_of_ble_eq_true rfl) ?_
  have t1 := hT (lc - 1) (by omega) (by omega)
  have t2 := hT (lc - 1 + 1) (by omega) (by omega)
  refine wa_aload_n (pc' := 1) dX8_append_0 rfl rfl rfl ?_
  refine wa_getfield (pc' := 4) (j := 2) zc_X8 lk_X8_19 dX8_append_1 rfl (by decide) rfl rfl ?_
  refine wa_iconst (pc' := 5) dX8_append_4 rfl ?_
  refine wa_isub (pc' := 6) dX8_append_5 rfl ?_
  refine wa_istore (pc' := 8) (ls' := [(4, _), (0, _), (1, _), (2, _), (3, _)]) dX8_append_6 rfl (by decide) rfl ?_
  refine wa_aload_n (pc' := 9) dX8_append_8 rfl rfl rfl ?_
  refine wa_iload (pc' := 11) dX8_append_9 rfl rfl ?_
  refine wa_aload_n (pc' := 12) dX8_append_11 rfl rfl rfl ?_
  refine wa_iload (pc' := 14) dX8_append_12 rfl rfl ?_
  refine wa_rV (pc' := 17) (k_X8_lengthOf _ _ _ _ _ _ _ _ (by omega)) ok_X8_lengthOf lm_X8_50 dX8_append_14 rfl [0, 1, 2, 3] rfl (by decide) rfl rfl rfl rfl rfl (by decide) (Nat.le_of_ble_eq_true rfl) rfl (by decide) (by decide) rfl ?_
  refine wa_iload_n (pc' := 18) dX8_append_17 rfl rfl rfl ?_
  refine wa_iload_n (pc' := 19) dX8_append_18 rfl rfl rfl ?_
  refine wa_iload_n (pc' := 20) dX8_append_19 rfl rfl rfl ?_
  refine wa_dV (pc' := 23) (w' := [zO _ [_, _, _, _, _, _, _], zA _ _ _, zA _ _ _, zA _ _ _]) (k_X8_insert _ _ _ _ _ _ _ _ _ _ _ _ (by omega) (by omega) (by omega) (by assumption)) ok_X8_insert lm_X8_53 dX8_append_20 rfl [0, 1, 2, 3] rfl (by decide) rfl rfl rfl rfl rfl (by decide) (Nat.le_of_ble_eq_true rfl) rfl (by decide) (by decide) rfl rfl rfl ?_
  refine wa_pop (pc' := 24) dX8_append_23 rfl rfl ?_
  refine wa_vret dX8_append_24 rfl (by decide) (by decide) ?_
  exact ⟨rfl, rfl⟩

set_option maxRecDepth 10000 in
set_option maxHeartbeats 1000000 in
theorem k_X8_takeOut (L T F : Int → Int) (lc cc sg mn : Int) (i : Int) (hi : 0 ≤ i ∧ i < cc) (hc : cc ≤ 40) : zMet q_X8_takeOut 1 0 0 [zR 0, zI i] (wSh L T F lc cc sg mn) (zD none (wSh L T (outF F i cc) lc (cc - 1) sg mn)) := by
  refine z_introF (ls := [(0, _), (1, _)]) (by decide +kernel) rfl (fun _ _ => rfl) (fun _ _ => Nat.le_of_ble_eq_true rfl) ?_
  refine wa_iload_n (pc' := 1) dX8_takeOut_0 rfl rfl rfl ?_
  refine wa_if_lt (tgt := 62) (pc' := 4) dX8_takeOut_1 (by decide) rfl (by omega) (fun c1 => ?_) (fun c1 => ?_)
  · exact absurd c1 (by omega)
  · refine wa_iload_n (pc' := 5) dX8_takeOut_4 rfl rfl rfl ?_
    refine wa_aload_n (pc' := 6) dX8_takeOut_5 rfl rfl rfl ?_
    refine wa_getfield (pc' := 9) (j := 4) zc_X8 lk_X8_32 dX8_takeOut_6 rfl (by decide) rfl rfl ?_
    refine wa_icmp_ge (tgt := 62) (pc' := 12) dX8_takeOut_9 (by decide) rfl (by omega) (by omega) (fun c9 => ?_) (fun c9 => ?_)
    · exact absurd c9 (by omega)
    · refine wa_aload_n (pc' := 13) dX8_takeOut_12 rfl rfl rfl ?_
      refine wa_getfield (pc' := 16) (j := 4) zc_X8 lk_X8_32 dX8_takeOut_13 rfl (by decide) rfl rfl ?_
      refine wa_bipush (pc' := 18) dX8_takeOut_16 rfl rfl ?_
      refine wa_icmp_gt (tgt := 62) (pc' := 21) dX8_takeOut_18 (by decide) rfl (by omega) (by omega) (fun c18 => ?_) (fun c18 => ?_)
      · exact absurd c18 (by omega)
      · refine wa_aload_n (pc' := 22) dX8_takeOut_21 rfl rfl rfl ?_
        refine wa_getfield (pc' := 25) (j := 4) zc_X8 lk_X8_32 dX8_takeOut_22 rfl (by decide) rfl rfl ?_
        refine wa_iconst (pc' := 26) dX8_takeOut_25 rfl ?_
        refine wa_isub (pc' := 27) dX8_takeOut_26 rfl ?_
        refine wa_iload_n (pc' := 28) dX8_takeOut_27 rfl rfl rfl ?_
        refine wa_isub (pc' := 29) dX8_takeOut_28 rfl ?_
        refine wa_iconst (pc' := 30) dX8_takeOut_29 rfl ?_
        refine wa_imul (pc' := 31) dX8_takeOut_30 rfl ?_
        refine wa_istore_n (pc' := 32) (ls' := [(2, _), (0, _), (1, _)]) dX8_takeOut_31 rfl rfl (by decide) rfl ?_
        refine wa_aload_n (pc' := 33) dX8_takeOut_32 rfl rfl rfl ?_
        refine wa_getfield (pc' := 36) (j := 3) zc_X8 lk_X8_23 dX8_takeOut_33 rfl (by decide) rfl rfl ?_
        refine wa_iload_n (pc' := 37) dX8_takeOut_36 rfl rfl rfl ?_
        refine wa_iconst (pc' := 38) dX8_takeOut_37 rfl ?_
        refine wa_iadd (pc' := 39) dX8_takeOut_38 rfl ?_
        refine wa_iconst (pc' := 40) dX8_takeOut_39 rfl ?_
        refine wa_imul (pc' := 41) dX8_takeOut_40 rfl ?_
        refine wa_aload_n (pc' := 42) dX8_takeOut_41 rfl rfl rfl ?_
        refine wa_getfield (pc' := 45) (j := 3) zc_X8 lk_X8_23 dX8_takeOut_42 rfl (by decide) rfl rfl ?_
        refine wa_iload_n (pc' := 46) dX8_takeOut_45 rfl rfl rfl ?_
        refine wa_iconst (pc' := 47) dX8_takeOut_46 rfl ?_
        refine wa_imul (pc' := 48) dX8_takeOut_47 rfl ?_
        refine wa_iload_n (pc' := 49) dX8_takeOut_48 rfl rfl rfl ?_
        refine wa_copyI (pc' := 52) (w' := [_, _, _, zA _ _ _]) dX8_takeOut_49 rfl lmc_X8_26 zl_nat zl_sta zl_sys rfl rfl (by omega) (by omega) (by omega) (by omega) (by omega) (by decide) (by decide) (by decide) (Nat.le_of_ble_eq_true rfl) rfl ?_
        refine wa_aload_n (pc' := 53) dX8_takeOut_52 rfl rfl rfl ?_
        refine wa_dup (pc' := 54) dX8_takeOut_53 rfl rfl ?_
        refine wa_getfield (pc' := 57) (j := 4) zc_X8 lk_X8_32 dX8_takeOut_54 rfl (by decide) rfl rfl ?_
        refine wa_iconst (pc' := 58) dX8_takeOut_57 rfl ?_
        refine wa_isub (pc' := 59) dX8_takeOut_58 rfl ?_
        refine wa_putfield (pc' := 62) (j := 4) (w' := [zO _ [_, _, _, _, _, _, _], _, _, _]) zc_X8 lk_X8_32 dX8_takeOut_59 rfl (by decide) rfl rfl (Nat.le_of_ble_eq_true rfl) True.intro rfl ?_
        refine wa_vret dX8_takeOut_62 rfl (by decide) (by decide) ?_
        exact ⟨rfl, rfl⟩

