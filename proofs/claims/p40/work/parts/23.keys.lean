/-! Keys and Capo -/
def tonO (sg mn : Int) : Int := if mn = 0 then sg else sg + 3
def sigO (t mn : Int) : Int := if mn = 0 then t else t - 3
def inS (sg pc : Int) : Int := if plf (sg - 1) pc < sg - 1 + 7 then 1 else 0
theorem inS_01 (sg pc : Int) : inS sg pc = 0 ∨ inS sg pc = 1 := by unfold inS; split <;> omega
theorem pcl_b (p : Int) : 0 ≤ pcl p ∧ pcl p < 12 := by unfold pcl; omega
theorem plf_b (lo p : Int) : lo ≤ plf lo p ∧ plf lo p < lo + 12 := by unfold plf; omega
def smS (tp mn fl : Int) : Int := if fl = 1 ∧ sigO (plf (tonO (-5) mn) tp) mn = 6 then -6 else sigO (plf (tonO (-5) mn) tp) mn
def dgR (sg ton : Int) : Nat → Int → Int → Int
  | 0, _, n => n
  | m + 1, s, n => dgR sg ton m (s + 1) (if inS sg ((7 * ton + s) % 12) = 1 then n + 1 else n)
def dgF (pc sg mn : Int) : Int := if inS sg pc = 0 then 0 else dgR sg (tonO sg mn) ((pc - pcl (tonO sg mn)) % 12 + 1).toNat 0 0
def sc1 (F : Int → Int) (sg mn la i : Int) : Int := (if inS sg (pcl (F (i * 5 + 2))) = 1 then 2 else 0) + (if pcl (F (i * 5 + 2)) = pcl (tonO sg mn) then 1 + (if zMinor.getD (F (i * 5 + 3)).toNat 0 = mn then 1 else 0) + (if i = la then 2 else 0) else 0)
def scR (F : Int → Int) (sg mn la : Int) : Nat → Int → Int → Int
  | 0, _, n => n
  | m + 1, i, n => scR F sg mn la m (i + 1) (n + sc1 F sg mn la i)
def scF (F : Int → Int) (cc sg mn : Int) : Int := scR F sg mn (cc - 1) cc.toNat 0 0
theorem sc1_b (F : Int → Int) (sg mn la i : Int) : 0 ≤ sc1 F sg mn la i ∧ sc1 F sg mn la i ≤ 6 := by
  unfold sc1
  (repeat' split) <;> omega
theorem scR_b (F : Int → Int) (sg mn la : Int) : ∀ (m : Nat) (i n : Int), n ≤ scR F sg mn la m i n ∧ scR F sg mn la m i n ≤ n + 6 * m
  | 0, i, n => by simp [scR]
  | m + 1, i, n => by
    have h := scR_b F sg mn la m (i + 1) (n + sc1 F sg mn la i)
    have h2 := sc1_b F sg mn la i
    simp only [scR]
    omega
theorem scF_b (F : Int → Int) {cc : Int} (sg mn : Int) (h : 0 ≤ cc ∧ cc ≤ 40) : 0 ≤ scF F cc sg mn ∧ scF F cc sg mn ≤ 240 := by
  have := scR_b F sg mn (cc - 1) cc.toNat 0 0
  unfold scF
  omega
def bsR (sc : Int → Int) : Nat → Int → Int → Int → Int
  | 0, _, b, _ => b
  | m + 1, z, b, s =>
    let b1 := if sc z > s then z else b
    let s1 := if sc z > s then sc z else s
    bsR sc m (z + 1) (if sc (-z) > s1 then -z else b1) (if sc (-z) > s1 then sc (-z) else s1)
theorem bsR_b (sc : Int → Int) : ∀ (m : Nat) (z b s : Int), 1 ≤ z → z + m ≤ 7 → -6 ≤ b ∧ b ≤ 6 → -6 ≤ bsR sc m z b s ∧ bsR sc m z b s ≤ 6
  | 0, z, b, s, h1, h2, h3 => h3
  | m + 1, z, b, s, h1, h2, h3 => by
    simp only [bsR]
    apply bsR_b sc m (z + 1) _ _ (by omega) (by omega)
    (repeat' split) <;> omega
def bsF (F : Int → Int) (cc mn : Int) : Int := bsR (fun z => scF F cc z mn) 6 1 0 (scF F cc 0 mn)
theorem bsF_b (F : Int → Int) (cc mn : Int) : -6 ≤ bsF F cc mn ∧ bsF F cc mn ≤ 6 := bsR_b _ 6 1 0 _ (by decide) (by decide) (by decide)
def beF (F : Int → Int) (cc : Int) : Int := if scF F cc (bsF F cc 1) 1 > scF F cc (bsF F cc 0) 0 then 100 + tonO (bsF F cc 1) 1 else tonO (bsF F cc 0) 0
def shD (q b r easy : Int) : Int := (if easy = 0 then 4 else 1) + (if q > 3 then 1 else 0) + (if b ≠ 100 ∧ pcl b ≠ pcl r then 1 else 0)
def dfR (F : Int → Int) (fr : Int) : Nat → Int → Int → Int → Int
  | 0, _, s, _ => s
  | m + 1, i, s, h =>
    let r := (7 * F (i * 5 + 2) + -fr) % 12
    let e := easyF (F (i * 5 + 3)).toNat r
    dfR F fr m (i + 1) (s + shD (F (i * 5 + 3)) (F (i * 5 + 4)) (F (i * 5 + 2)) e + (if e = 0 ∧ h ≠ 100 ∧ h ≠ r then 1 else 0)) (if e = 0 then r else 100)
def dfF (F : Int → Int) (cc fr : Int) : Int := dfR F fr cc.toNat 0 fr 100
theorem shD_b (q b r e : Int) : 1 ≤ shD q b r e ∧ shD q b r e ≤ 6 := by unfold shD; (repeat' split) <;> omega
theorem easyF_01 (q : Nat) (r : Int) : easyF q r = 0 ∨ easyF q r = 1 := by unfold easyF; split <;> omega
theorem dfR_b (F : Int → Int) (fr : Int) : ∀ (m : Nat) (i s h : Int), s ≤ dfR F fr m i s h ∧ dfR F fr m i s h ≤ s + 7 * m
  | 0, i, s, h => by simp [dfR]
  | m + 1, i, s, h => by
    simp only [dfR]
    have h2 := shD_b (F (i * 5 + 3)) (F (i * 5 + 4)) (F (i * 5 + 2)) (easyF (F (i * 5 + 3)).toNat ((7 * F (i * 5 + 2) + -fr) % 12))
    generalize shD (F (i * 5 + 3)) (F (i * 5 + 4)) (F (i * 5 + 2)) (easyF (F (i * 5 + 3)).toNat ((7 * F (i * 5 + 2) + -fr) % 12)) = x at *
    have h3 : ∀ (c : Prop) [Decidable c], 0 ≤ (if c then (1 : Int) else 0) ∧ (if c then (1 : Int) else 0) ≤ 1 := fun c _ => by split <;> omega
    have h4 := h3 (easyF (F (i * 5 + 3)).toNat ((7 * F (i * 5 + 2) + -fr) % 12) = 0 ∧ h ≠ 100 ∧ h ≠ (7 * F (i * 5 + 2) + -fr) % 12)
    generalize (if easyF (F (i * 5 + 3)).toNat ((7 * F (i * 5 + 2) + -fr) % 12) = 0 ∧ h ≠ 100 ∧ h ≠ (7 * F (i * 5 + 2) + -fr) % 12 then (1 : Int) else 0) = y at *
    have h1 := dfR_b F fr m (i + 1) (s + x + y) (if easyF (F (i * 5 + 3)).toNat ((7 * F (i * 5 + 2) + -fr) % 12) = 0 then (7 * F (i * 5 + 2) + -fr) % 12 else 100)
    omega
theorem dfF_b (F : Int → Int) {cc fr : Int} (h : 0 ≤ cc ∧ cc ≤ 40) (hf : 0 ≤ fr ∧ fr ≤ 7) : 0 ≤ dfF F cc fr ∧ dfF F cc fr ≤ 300 := by
  have := dfR_b F fr cc.toNat 0 fr 100
  unfold dfF
  omega
def efR (df : Int → Int) : Nat → Int → Int → Int → Int
  | 0, _, b, _ => b
  | m + 1, f, b, s => efR df m (f + 1) (if df f < s then f else b) (if df f < s then df f else s)
set_option maxRecDepth 10000 in
set_option maxHeartbeats 1000000 in
theorem k_X2_signatureOf (t mn9 : Int) (hm : zin mn9) : zMet q_X2_signatureOf 0 0 0 [zI t, zI mn9] [] (zD (some (zI (sigO t mn9))) []) := by
  refine z_introF (ls := [(0, _), (1, _)]) (by decide +kernel) rfl (fun _ _ => rfl) (fun _ _ => Nat.le_of_ble_eq_true rfl) ?_
  refine wa_iload_n (pc' := 1) dX2_signatureOf_0 rfl rfl rfl ?_
  refine wa_if_eq (tgt := 10) (pc' := 4) dX2_signatureOf_1 (by decide) rfl (by omega) (fun c1 => ?_) (fun c1 => ?_)
  · refine wa_iload_n (pc' := 11) dX2_signatureOf_10 rfl rfl rfl ?_
    refine wa_iret dX2_signatureOf_11 rfl (by decide) (by decide) ?_
    first | exact zD_i (by rw [sigO, if_pos (by assumption)]) rfl | exact zD_i (by rw [sigO, if_neg (by assumption)]) rfl
  · refine wa_iload_n (pc' := 5) dX2_signatureOf_4 rfl rfl rfl ?_
    refine wa_iconst (pc' := 6) dX2_signatureOf_5 rfl ?_
    refine wa_isub (pc' := 7) dX2_signatureOf_6 rfl ?_
    refine wa_goto (pc' := 11) dX2_signatureOf_7 (by decide) ?_
    refine wa_iret dX2_signatureOf_11 rfl (by decide) (by decide) ?_
    first | exact zD_i (by rw [sigO, if_pos (by assumption)]) rfl | exact zD_i (by rw [sigO, if_neg (by assumption)]) rfl

set_option maxRecDepth 10000 in
set_option maxHeartbeats 1000000 in
theorem k_X2_tonicOf (t mn9 : Int) (hm : zin mn9) : zMet q_X2_tonicOf 0 0 0 [zI t, zI mn9] [] (zD (some (zI (tonO t mn9))) []) := by
  refine z_introF (ls := [(0, _), (1, _)]) (by decide +kernel) rfl (fun _ _ => rfl) (fun _ _ => Nat.le_of_ble_eq_true rfl) ?_
  refine wa_iload_n (pc' := 1) dX2_tonicOf_0 rfl rfl rfl ?_
  refine wa_if_eq (tgt := 10) (pc' := 4) dX2_tonicOf_1 (by decide) rfl (by omega) (fun c1 => ?_) (fun c1 => ?_)
  · refine wa_iload_n (pc' := 11) dX2_tonicOf_10 rfl rfl rfl ?_
    refine wa_iret dX2_tonicOf_11 rfl (by decide) (by decide) ?_
    first | exact zD_i (by rw [tonO, if_pos (by assumption)]) rfl | exact zD_i (by rw [tonO, if_neg (by assumption)]) rfl
  · refine wa_iload_n (pc' := 5) dX2_tonicOf_4 rfl rfl rfl ?_
    refine wa_iconst (pc' := 6) dX2_tonicOf_5 rfl ?_
    refine wa_iadd (pc' := 7) dX2_tonicOf_6 rfl ?_
    refine wa_goto (pc' := 11) dX2_tonicOf_7 (by decide) ?_
    refine wa_iret dX2_tonicOf_11 rfl (by decide) (by decide) ?_
    first | exact zD_i (by rw [tonO, if_pos (by assumption)]) rfl | exact zD_i (by rw [tonO, if_neg (by assumption)]) rfl

set_option maxRecDepth 10000 in
set_option maxHeartbeats 1000000 in
theorem k_X2_isInScale (pc sg9 : Int) (hp : 0 ≤ pc ∧ pc < 12) (hs : -10 ≤ sg9 ∧ sg9 ≤ 10) : zMet q_X2_isInScale 2 0 0 [zI pc, zI sg9] [] (zD (some (zI (inS sg9 pc))) []) := by
  refine z_introF (ls := [(0, _), (1, _)]) (by decide +kernel) rfl (fun _ _ => rfl) (fun _ _ => Nat.le_of_ble_eq_true rfl) ?_
  have hP := plf_b (sg9 - 1) pc
  refine wa_iload_n (pc' := 1) dX2_isInScale_0 rfl rfl rfl ?_
  refine wa_iconst (pc' := 2) dX2_isInScale_1 rfl ?_
  refine wa_isub (pc' := 3) dX2_isInScale_2 rfl ?_
  refine wa_istore_n (pc' := 4) (ls' := [(2, _), (0, _), (1, _)]) dX2_isInScale_3 rfl rfl (by decide) rfl ?_
  refine wa_iload_n (pc' := 5) dX2_isInScale_4 rfl rfl rfl ?_
  refine wa_iload_n (pc' := 6) dX2_isInScale_5 rfl rfl rfl ?_
  refine wa_dS (pc' := 9) (w' := []) (k_X4_placeFrom (sg9 - 1) pc (by omega) (by omega)) ok_X4_placeFrom lm_X2_15 dX2_isInScale_6 rfl [] rfl (by decide) rfl rfl (by decide) (Nat.le_of_ble_eq_true rfl) rfl (by decide) (by decide) rfl rfl rfl ?_
  refine wa_iload_n (pc' := 10) dX2_isInScale_9 rfl rfl rfl ?_
  refine wa_bipush (pc' := 12) dX2_isInScale_10 rfl rfl ?_
  refine wa_iadd (pc' := 13) dX2_isInScale_12 rfl ?_
  refine wa_icmp_ge (tgt := 20) (pc' := 16) dX2_isInScale_13 (by decide) rfl (by omega) (by omega) (fun c13 => ?_) (fun c13 => ?_)
  · refine wa_iconst (pc' := 21) dX2_isInScale_20 rfl ?_
    refine wa_zret dX2_isInScale_21 rfl (by decide) (by decide) (by omega) ?_
    first | exact zD_i (by rw [inS, if_pos (by omega)]) rfl | exact zD_i (by rw [inS, if_neg (by omega)]) rfl
  · refine wa_iconst (pc' := 17) dX2_isInScale_16 rfl ?_
    refine wa_goto (pc' := 21) dX2_isInScale_17 (by decide) ?_
    refine wa_zret dX2_isInScale_21 rfl (by decide) (by decide) (by omega) ?_
    first | exact zD_i (by rw [inS, if_pos (by omega)]) rfl | exact zD_i (by rw [inS, if_neg (by omega)]) rfl

set_option maxRecDepth 10000 in
set_option maxHeartbeats 1000000 in
theorem k_X2_simplestSignature (tp mn9 fl : Int) (hp : 0 ≤ tp ∧ tp < 12) (hm : mn9 = 0 ∨ mn9 = 1) (hf : fl = 0 ∨ fl = 1) : zMet q_X2_simplestSignature 2 0 0 [zI tp, zI mn9, zI fl] [] (zD (some (zI (smS tp mn9 fl))) []) := by
  refine z_introF (ls := [(0, _), (1, _), (2, _)]) (by decide +kernel) rfl (fun _ _ => rfl) (fun _ _ => Nat.le_of_ble_eq_true rfl) ?_
  have hT : -10 ≤ tonO (-5) mn9 ∧ tonO (-5) mn9 ≤ 10 := by unfold tonO; split <;> omega
  have hP := plf_b (tonO (-5) mn9) tp
  have hS : -100 ≤ sigO (plf (tonO (-5) mn9) tp) mn9 ∧ sigO (plf (tonO (-5) mn9) tp) mn9 ≤ 100 := by unfold sigO; split <;> omega
  refine wa_bipush (pc' := 2) dX2_simplestSignature_0 rfl rfl ?_
  refine wa_iload_n (pc' := 3) dX2_simplestSignature_2 rfl rfl rfl ?_
  refine wa_dS (pc' := 6) (w' := []) (k_X2_tonicOf (-5) mn9 (by omega)) ok_X2_tonicOf lm_X2_11 dX2_simplestSignature_3 rfl [] rfl (by decide) rfl rfl (by decide) (Nat.le_of_ble_eq_true rfl) rfl (by decide) (by decide) rfl rfl rfl ?_
  refine wa_istore_n (pc' := 7) (ls' := [(3, _), (0, _), (1, _), (2, _)]) dX2_simplestSignature_6 rfl rfl (by decide) rfl ?_
  refine wa_iload_n (pc' := 8) dX2_simplestSignature_7 rfl rfl rfl ?_
  refine wa_iload_n (pc' := 9) dX2_simplestSignature_8 rfl rfl rfl ?_
  refine wa_dS (pc' := 12) (w' := []) (k_X4_placeFrom (tonO (-5) mn9) tp (by omega) (by omega)) ok_X4_placeFrom lm_X2_15 dX2_simplestSignature_9 rfl [] rfl (by decide) rfl rfl (by decide) (Nat.le_of_ble_eq_true rfl) rfl (by decide) (by decide) rfl rfl rfl ?_
  refine wa_iload_n (pc' := 13) dX2_simplestSignature_12 rfl rfl rfl ?_
  refine wa_dS (pc' := 16) (w' := []) (k_X2_signatureOf (plf (tonO (-5) mn9) tp) mn9 (by omega)) ok_X2_signatureOf lm_X2_21 dX2_simplestSignature_13 rfl [] rfl (by decide) rfl rfl (by decide) (Nat.le_of_ble_eq_true rfl) rfl (by decide) (by decide) rfl rfl rfl ?_
  refine wa_istore (pc' := 18) (ls' := [(4, _), (3, _), (0, _), (1, _), (2, _)]) dX2_simplestSignature_16 rfl (by decide) rfl ?_
  refine wa_iload_n (pc' := 19) dX2_simplestSignature_18 rfl rfl rfl ?_
  refine wa_if_eq (tgt := 34) (pc' := 22) dX2_simplestSignature_19 (by decide) rfl (by omega) (fun c19 => ?_) (fun c19 => ?_)
  · refine wa_iload (pc' := 36) dX2_simplestSignature_34 rfl rfl ?_
    refine wa_iret dX2_simplestSignature_36 rfl (by decide) (by decide) ?_
    first | exact zD_i (by rw [smS, if_pos ⟨by omega, by omega⟩]) rfl | exact zD_i (by rw [smS, if_neg (fun h => by omega)]) rfl
  · refine wa_iload (pc' := 24) dX2_simplestSignature_22 rfl rfl ?_
    refine wa_bipush (pc' := 26) dX2_simplestSignature_24 rfl rfl ?_
    refine wa_icmp_ne (tgt := 34) (pc' := 29) dX2_simplestSignature_26 (by decide) rfl (by omega) (by omega) (fun c26 => ?_) (fun c26 => ?_)
    · refine wa_iload (pc' := 36) dX2_simplestSignature_34 rfl rfl ?_
      refine wa_iret dX2_simplestSignature_36 rfl (by decide) (by decide) ?_
      first | exact zD_i (by rw [smS, if_pos ⟨by omega, by omega⟩]) rfl | exact zD_i (by rw [smS, if_neg (fun h => by omega)]) rfl
    · refine wa_bipush (pc' := 31) dX2_simplestSignature_29 rfl rfl ?_
      refine wa_goto (pc' := 36) dX2_simplestSignature_31 (by decide) ?_
      refine wa_iret dX2_simplestSignature_36 rfl (by decide) (by decide) ?_
      first | exact zD_i (by rw [smS, if_pos ⟨by omega, by omega⟩]) rfl | exact zD_i (by rw [smS, if_neg (fun h => by omega)]) rfl

set_option maxRecDepth 10000 in
set_option maxHeartbeats 1000000 in
theorem l_degreeOf (sg9 ton di pc mn9 R : Int) (hs : -10 ≤ sg9 ∧ sg9 ≤ 10) (ht : -20 ≤ ton ∧ ton ≤ 20) (hd : 0 ≤ di ∧ di < 12) : ∀ (m : Nat) (s n : Int), 0 ≤ s → s + m = di + 1 → dgR sg9 ton m s n = R → Wa q_X2_degreeOf 3 0 0 0 (zD (some (zI R)) []) 35 [(6, zI s), (5, zI n), (4, zI di), (3, zI ton), (0, zI pc), (1, zI sg9), (2, zI mn9)] [] [] 0 0 := by
  intro m
  induction m with
  | zero =>
    intro s n h0 hm hR
    refine wa_iload (pc' := 37) dX2_degreeOf_35 rfl rfl ?_
    refine wa_iload (pc' := 39) dX2_degreeOf_37 rfl rfl ?_
    refine wa_icmp_gt (tgt := 64) (pc' := 42) dX2_degreeOf_39 (by decide) rfl (by omega) (by omega) (fun c39 => ?_) (fun c39 => ?_)
    · refine wa_iload (pc' := 66) dX2_degreeOf_64 rfl rfl ?_
      refine wa_iret dX2_degreeOf_66 rfl (by decide) (by decide) ?_
      exact zD_i (by rw [← hR]; rfl) rfl
    · exact absurd c39 (by omega)
  | succ m ih =>
    intro s n h0 hm hR
    have hM := Int.emod_nonneg (7 * ton + s) (show (12 : Int) ≠ 0 by decide)
    have hM2 := Int.emod_lt_of_pos (7 * ton + s) (show (0 : Int) < 12 by decide)
    have hi := inS_01 sg9 ((7 * ton + s) % 12)
    refine wa_iload (pc' := 37) dX2_degreeOf_35 rfl rfl ?_
    refine wa_iload (pc' := 39) dX2_degreeOf_37 rfl rfl ?_
    refine wa_icmp_gt (tgt := 64) (pc' := 42) dX2_degreeOf_39 (by decide) rfl (by omega) (by omega) (fun c39 => ?_) (fun c39 => ?_)
    · exact absurd c39 (by omega)
    · refine wa_iload_n (pc' := 43) dX2_degreeOf_42 rfl rfl rfl ?_
      refine wa_iload (pc' := 45) dX2_degreeOf_43 rfl rfl ?_
      refine wa_dS (pc' := 48) (w' := []) (k_X4_raised ton s (by omega) (by omega)) ok_X4_raised lm_X2_37 dX2_degreeOf_45 rfl [] rfl (by decide) rfl rfl (by decide) (Nat.le_of_ble_eq_true rfl) rfl (by decide) (by decide) rfl rfl rfl ?_
      refine wa_iload_n (pc' := 49) dX2_degreeOf_48 rfl rfl rfl ?_
      refine wa_dS (pc' := 52) (w' := []) (k_X2_isInScale ((7 * ton + s) % 12) sg9 (by omega) (by omega)) ok_X2_isInScale lm_X2_24 dX2_degreeOf_49 rfl [] rfl (by decide) rfl rfl (by decide) (Nat.le_of_ble_eq_true rfl) rfl (by decide) (by decide) rfl rfl rfl ?_
      refine wa_if_eq (tgt := 58) (pc' := 55) dX2_degreeOf_52 (by decide) rfl (by omega) (fun c52 => ?_) (fun c52 => ?_)
      · refine wa_iinc (pc' := 61) (ls' := [(6, _), (5, _), (4, _), (3, _), (0, _), (1, _), (2, _)]) dX2_degreeOf_58 rfl rfl (by decide) rfl ?_
        refine wa_goto (pc' := 35) dX2_degreeOf_61 (by decide) ?_
        first | exact ih (s + 1) (n + 1) (by omega) (by omega) (by rw [← hR, dgR, if_pos (by omega)]) | exact ih (s + 1) n (by omega) (by omega) (by rw [← hR, dgR, if_neg (by omega)])
      · refine wa_iinc (pc' := 58) (ls' := [(5, _), (6, _), (4, _), (3, _), (0, _), (1, _), (2, _)]) dX2_degreeOf_55 rfl rfl (by decide) rfl ?_
        refine wa_iinc (pc' := 61) (ls' := [(6, _), (5, _), (4, _), (3, _), (0, _), (1, _), (2, _)]) dX2_degreeOf_58 rfl rfl (by decide) rfl ?_
        refine wa_goto (pc' := 35) dX2_degreeOf_61 (by decide) ?_
        first | exact ih (s + 1) (n + 1) (by omega) (by omega) (by rw [← hR, dgR, if_pos (by omega)]) | exact ih (s + 1) n (by omega) (by omega) (by rw [← hR, dgR, if_neg (by omega)])

set_option maxRecDepth 10000 in
set_option maxHeartbeats 1000000 in
theorem k_X2_degreeOf (pc sg9 mn9 : Int) (hp : 0 ≤ pc ∧ pc < 12) (hs : -6 ≤ sg9 ∧ sg9 ≤ 6) (hm : mn9 = 0 ∨ mn9 = 1) : zMet q_X2_degreeOf 3 0 0 [zI pc, zI sg9, zI mn9] [] (zD (some (zI (dgF pc sg9 mn9))) []) := by
  refine z_introF (ls := [(0, _), (1, _), (2, _)]) (by decide +kernel) rfl (fun _ _ => rfl) (fun _ _ => Nat.le_of_ble_eq_true rfl) ?_
  have hi := inS_01 sg9 pc
  have hT : -20 ≤ tonO sg9 mn9 ∧ tonO sg9 mn9 ≤ 20 := by unfold tonO; split <;> omega
  have hP := pcl_b (tonO sg9 mn9)
  have hM := Int.emod_nonneg (pc - pcl (tonO sg9 mn9)) (show (12 : Int) ≠ 0 by decide)
  have hM2 := Int.emod_lt_of_pos (pc - pcl (tonO sg9 mn9)) (show (0 : Int) < 12 by decide)
  refine wa_iload_n (pc' := 1) dX2_degreeOf_0 rfl rfl rfl ?_
  refine wa_iload_n (pc' := 2) dX2_degreeOf_1 rfl rfl rfl ?_
  refine wa_dS (pc' := 5) (w' := []) (k_X2_isInScale pc sg9 (by omega) (by omega)) ok_X2_isInScale lm_X2_24 dX2_degreeOf_2 rfl [] rfl (by decide) rfl rfl (by decide) (Nat.le_of_ble_eq_true rfl) rfl (by decide) (by decide) rfl rfl rfl ?_
  refine wa_if_ne (tgt := 10) (pc' := 8) dX2_degreeOf_5 (by decide) rfl (by omega) (fun c5 => ?_) (fun c5 => ?_)
  · refine wa_iload_n (pc' := 11) dX2_degreeOf_10 rfl rfl rfl ?_
    refine wa_iload_n (pc' := 12) dX2_degreeOf_11 rfl rfl rfl ?_
    refine wa_dS (pc' := 15) (w' := []) (k_X2_tonicOf sg9 mn9 (by omega)) ok_X2_tonicOf lm_X2_11 dX2_degreeOf_12 rfl [] rfl (by decide) rfl rfl (by decide) (Nat.le_of_ble_eq_true rfl) rfl (by decide) (by decide) rfl rfl rfl ?_
    refine wa_istore_n (pc' := 16) (ls' := [(3, _), (0, _), (1, _), (2, _)]) dX2_degreeOf_15 rfl rfl (by decide) rfl ?_
    refine wa_iload_n (pc' := 17) dX2_degreeOf_16 rfl rfl rfl ?_
    refine wa_iload_n (pc' := 18) dX2_degreeOf_17 rfl rfl rfl ?_
    refine wa_dS (pc' := 21) (w' := []) (k_X4_pitchClass (tonO sg9 mn9) (by omega)) ok_X4_pitchClass lm_X2_28 dX2_degreeOf_18 rfl [] rfl (by decide) rfl rfl (by decide) (Nat.le_of_ble_eq_true rfl) rfl (by decide) (by decide) rfl rfl rfl ?_
    refine wa_isub (pc' := 22) dX2_degreeOf_21 rfl ?_
    refine wa_bipush (pc' := 24) dX2_degreeOf_22 rfl rfl ?_
    refine wa_dS (pc' := 27) (w' := []) (k_J9_floorMod_7cf53 (pc - pcl (tonO sg9 mn9)) 12 (by omega) (by omega)) ok_J9_floorMod_7cf53 lm_X2_32 dX2_degreeOf_24 rfl [] rfl (by decide) rfl rfl (by decide) (Nat.le_of_ble_eq_true rfl) rfl (by decide) (by decide) rfl rfl rfl ?_
    refine wa_istore (pc' := 29) (ls' := [(4, _), (3, _), (0, _), (1, _), (2, _)]) dX2_degreeOf_27 rfl (by decide) rfl ?_
    refine wa_iconst (pc' := 30) dX2_degreeOf_29 rfl ?_
    refine wa_istore (pc' := 32) (ls' := [(5, _), (4, _), (3, _), (0, _), (1, _), (2, _)]) dX2_degreeOf_30 rfl (by decide) rfl ?_
    refine wa_iconst (pc' := 33) dX2_degreeOf_32 rfl ?_
    refine wa_istore (pc' := 35) (ls' := [(6, _), (5, _), (4, _), (3, _), (0, _), (1, _), (2, _)]) dX2_degreeOf_33 rfl (by decide) rfl ?_
    exact l_degreeOf sg9 (tonO sg9 mn9) ((pc - pcl (tonO sg9 mn9)) % 12) pc mn9 _ (by omega) hT ⟨hM, hM2⟩ ((pc - pcl (tonO sg9 mn9)) % 12 + 1).toNat 0 0 (by omega) (by omega) (by rw [dgF, if_neg c5])
  · refine wa_iconst (pc' := 9) dX2_degreeOf_8 rfl ?_
    refine wa_iret dX2_degreeOf_9 rfl (by decide) (by decide) ?_
    exact zD_i (by rw [dgF, if_pos c5]) rfl

set_option maxRecDepth 10000 in
set_option maxHeartbeats 1000000 in
theorem zMinor_in (k : Nat) : zin (zMinor.getD k 0) := by
  by_cases h : k < 10
  · have : ∀ k : Nat, k < 10 → zin (zMinor.getD k 0) := by decide
    exact this k h
  · rw [List.getD_eq_getElem?_getD, List.getElem?_eq_none (by show 10 ≤ k; omega)]
    exact ⟨by decide, by decide⟩
set_option maxRecDepth 10000 in
set_option maxHeartbeats 4000000 in
theorem l_scoreOf (L T F : Int → Int) (lc cc sg mn : Int) (sg9 mn9 R : Int) (hs : -6 ≤ sg9 ∧ sg9 ≤ 6) (hm : mn9 = 0 ∨ mn9 = 1) (hc : 0 ≤ cc ∧ cc ≤ 40) (hF : ∀ j : Int, 0 ≤ j → j < 200 → -1000 ≤ F j ∧ F j ≤ 1000) (hQ : ∀ i : Int, 0 ≤ i → i < cc → 0 ≤ F (i * 5 + 3) ∧ F (i * 5 + 3) < 10) : ∀ (m : Nat) (i n : Int), 0 ≤ i → i + m = cc → 0 ≤ n ∧ n + 6 * m ≤ 1000 → scR F sg9 mn9 (cc - 1) m i n = R → Wa q_X2_scoreOf 3 0 0 4 (zD (some (zI R)) (wSh L T F lc cc sg mn)) 23 [(6, zI i), (5, zI n), (4, zI (cc - 1)), (3, zI (pcl (tonO sg9 mn9))), (0, zR 0), (1, zI sg9), (2, zI mn9)] [] (wSh L T F lc cc sg mn) 0 0 := by
  have hT : -20 ≤ tonO sg9 mn9 ∧ tonO sg9 mn9 ≤ 20 := by unfold tonO; split <;> omega
  have hP := pcl_b (tonO sg9 mn9)
  intro m
  induction m with
  | zero =>
    intro i n h0 hm1 hn hR
    refine wa_iload (pc' := 25) dX2_scoreOf_23 rfl rfl ?_
    refine wa_iload (pc' := 27) dX2_scoreOf_25 rfl rfl ?_
    refine wa_icmp_gt (tgt := 120) (pc' := 30) dX2_scoreOf_27 (by decide) rfl (by omega) (by omega) (fun c27 => ?_) (fun c27 => ?_)
    · refine wa_iload (pc' := 122) dX2_scoreOf_120 rfl rfl ?_
      refine wa_iret dX2_scoreOf_122 rfl (by decide) (by decide) ?_
      exact zD_i (by rw [← hR]; rfl) rfl
    · exact absurd c27 (by omega)
  | succ m ih =>
    intro i n h0 hm1 hn hR
    have hr := hF (i * 5 + 2) (by omega) (by omega)
    have hq := hQ i (by omega) (by omega)
    have hp := pcl_b (F (i * 5 + 2))
    have hi := inS_01 sg9 (pcl (F (i * 5 + 2)))
    have h1 := sc1_b F sg9 mn9 (cc - 1) i
    have hmn : zin (zMinor.getD (F (i * 5 + 3)).toNat 0) := zMinor_in _
    refine wa_iload (pc' := 25) dX2_scoreOf_23 rfl rfl ?_
    refine wa_iload (pc' := 27) dX2_scoreOf_25 rfl rfl ?_
    refine wa_icmp_gt (tgt := 120) (pc' := 30) dX2_scoreOf_27 (by decide) rfl (by omega) (by omega) (fun c27 => ?_) (fun c27 => ?_)
    · exact absurd c27 (by omega)
    · refine wa_aload_n (pc' := 31) dX2_scoreOf_30 rfl rfl rfl ?_
      refine wa_iload (pc' := 33) dX2_scoreOf_31 rfl rfl ?_
      refine wa_iconst (pc' := 34) dX2_scoreOf_33 rfl ?_
      refine wa_rV (pc' := 37) (k_X8_get _ _ _ _ _ _ _ _ _ (by omega) (by omega)) ok_X8_get lm_X2_46 dX2_scoreOf_34 rfl [0, 1, 2, 3] rfl (by decide) rfl rfl rfl rfl rfl (by decide) (Nat.le_of_ble_eq_true rfl) rfl (by decide) (by decide) rfl ?_
      refine wa_dS (pc' := 40) (w' := [_, _, _, _]) (k_X4_pitchClass _ (by omega)) ok_X4_pitchClass lm_X2_28 dX2_scoreOf_37 rfl [] rfl (by decide) rfl rfl (by decide) (Nat.le_of_ble_eq_true rfl) rfl (by decide) (by decide) rfl rfl rfl ?_
      refine wa_istore (pc' := 42) (ls' := [(7, _), (6, _), (5, _), (4, _), (3, _), (0, _), (1, _), (2, _)]) dX2_scoreOf_40 rfl (by decide) rfl ?_
      refine wa_iload (pc' := 44) dX2_scoreOf_42 rfl rfl ?_
      refine wa_iload_n (pc' := 45) dX2_scoreOf_44 rfl rfl rfl ?_
      refine wa_dS (pc' := 48) (w' := [_, _, _, _]) (k_X2_isInScale _ _ (by omega) (by omega)) ok_X2_isInScale lm_X2_24 dX2_scoreOf_45 rfl [] rfl (by decide) rfl rfl (by decide) (Nat.le_of_ble_eq_true rfl) rfl (by decide) (by decide) rfl rfl rfl ?_
      refine wa_if_eq (tgt := 54) (pc' := 51) dX2_scoreOf_48 (by decide) rfl (by omega) (fun c48 => ?_) (fun c48 => ?_)
      · refine wa_iload (pc' := 56) dX2_scoreOf_54 rfl rfl ?_
        refine wa_iload_n (pc' := 57) dX2_scoreOf_56 rfl rfl rfl ?_
        refine wa_icmp_ne (tgt := 114) (pc' := 60) dX2_scoreOf_57 (by decide) rfl (by omega) (by omega) (fun c57 => ?_) (fun c57 => ?_)
        · refine wa_iinc (pc' := 117) (ls' := [(6, _), (7, _), (5, _), (4, _), (3, _), (0, _), (1, _), (2, _)]) dX2_scoreOf_114 rfl rfl (by decide) rfl ?_
          refine wa_goto (pc' := 23) dX2_scoreOf_117 (by decide) ?_
          refine wa_sub [0, 2, 3, 4, 5, 6, 7] rfl ?_
          refine ih (i + 1) _ (by omega) (by omega) ?_ ?_
          · (try constructor) <;> omega
          · rw [← hR, scR]
            congr 1
            rw [sc1]
            (repeat' split) <;> omega
        · refine wa_aload_n (pc' := 61) dX2_scoreOf_60 rfl rfl rfl ?_
          refine wa_iload (pc' := 63) dX2_scoreOf_61 rfl rfl ?_
          refine wa_iconst (pc' := 64) dX2_scoreOf_63 rfl ?_
          refine wa_rV (pc' := 67) (k_X8_get _ _ _ _ _ _ _ _ _ (by omega) (by omega)) ok_X8_get lm_X2_46 dX2_scoreOf_64 rfl [0, 1, 2, 3] rfl (by decide) rfl rfl rfl rfl rfl (by decide) (Nat.le_of_ble_eq_true rfl) rfl (by decide) (by decide) rfl ?_
          refine wa_dS (pc' := 70) (w' := [_, _, _, _]) (k_X5_at _ (by omega)) ok_X5_at lm_X2_49 dX2_scoreOf_67 rfl [] rfl (by decide) rfl rfl (by decide) (Nat.le_of_ble_eq_true rfl) rfl (by decide) (by decide) rfl rfl rfl ?_
          refine wa_kgetN (q := "") (pc' := 73) (v := zI (zMinor.getD (F (i * 5 + 3)).toNat 0)) (zk_minor (by omega)) lk_X2_55 dX2_scoreOf_70 rfl ?_
          refine wa_iload_n (pc' := 74) dX2_scoreOf_73 rfl rfl rfl ?_
          refine wa_icmp_ne (tgt := 81) (pc' := 77) dX2_scoreOf_74 (by decide) rfl (by omega) (by omega) (fun c74 => ?_) (fun c74 => ?_)
          · refine wa_iconst (pc' := 82) dX2_scoreOf_81 rfl ?_
            refine wa_istore (pc' := 84) (ls' := [(8, _), (7, _), (6, _), (5, _), (4, _), (3, _), (0, _), (1, _), (2, _)]) dX2_scoreOf_82 rfl (by decide) rfl ?_
            refine wa_iload (pc' := 86) dX2_scoreOf_84 rfl rfl ?_
            refine wa_iconst (pc' := 87) dX2_scoreOf_86 rfl ?_
            refine wa_iload (pc' := 89) dX2_scoreOf_87 rfl rfl ?_
            refine wa_if_eq (tgt := 96) (pc' := 92) dX2_scoreOf_89 (by decide) rfl (by omega) (fun c89 => ?_) (fun c89 => ?_)
            · refine wa_iconst (pc' := 97) dX2_scoreOf_96 rfl ?_
              refine wa_iadd (pc' := 98) dX2_scoreOf_97 rfl ?_
              refine wa_iload (pc' := 100) dX2_scoreOf_98 rfl rfl ?_
              refine wa_iload (pc' := 102) dX2_scoreOf_100 rfl rfl ?_
              refine wa_icmp_ne (tgt := 109) (pc' := 105) dX2_scoreOf_102 (by decide) rfl (by omega) (by omega) (fun c102 => ?_) (fun c102 => ?_)
              · refine wa_iconst (pc' := 110) dX2_scoreOf_109 rfl ?_
                refine wa_iadd (pc' := 111) dX2_scoreOf_110 rfl ?_
                refine wa_iadd (pc' := 112) dX2_scoreOf_111 rfl ?_
                refine wa_istore (pc' := 114) (ls' := [(5, _), (8, _), (7, _), (6, _), (4, _), (3, _), (0, _), (1, _), (2, _)]) dX2_scoreOf_112 rfl (by decide) rfl ?_
                refine wa_iinc (pc' := 117) (ls' := [(6, _), (5, _), (8, _), (7, _), (4, _), (3, _), (0, _), (1, _), (2, _)]) dX2_scoreOf_114 rfl rfl (by decide) rfl ?_
                refine wa_goto (pc' := 23) dX2_scoreOf_117 (by decide) ?_
                refine wa_sub [0, 1, 4, 5, 6, 7, 8] rfl ?_
                refine ih (i + 1) _ (by omega) (by omega) ?_ ?_
                · (try constructor) <;> omega
                · rw [← hR, scR]
                  congr 1
                  rw [sc1]
                  (repeat' split) <;> omega
              · refine wa_iconst (pc' := 106) dX2_scoreOf_105 rfl ?_
                refine wa_goto (pc' := 110) dX2_scoreOf_106 (by decide) ?_
                refine wa_iadd (pc' := 111) dX2_scoreOf_110 rfl ?_
                refine wa_iadd (pc' := 112) dX2_scoreOf_111 rfl ?_
                refine wa_istore (pc' := 114) (ls' := [(5, _), (8, _), (7, _), (6, _), (4, _), (3, _), (0, _), (1, _), (2, _)]) dX2_scoreOf_112 rfl (by decide) rfl ?_
                refine wa_iinc (pc' := 117) (ls' := [(6, _), (5, _), (8, _), (7, _), (4, _), (3, _), (0, _), (1, _), (2, _)]) dX2_scoreOf_114 rfl rfl (by decide) rfl ?_
                refine wa_goto (pc' := 23) dX2_scoreOf_117 (by decide) ?_
                refine wa_sub [0, 1, 4, 5, 6, 7, 8] rfl ?_
                refine ih (i + 1) _ (by omega) (by omega) ?_ ?_
                · (try constructor) <;> omega
                · rw [← hR, scR]
                  congr 1
                  rw [sc1]
                  (repeat' split) <;> omega
            · refine wa_iconst (pc' := 93) dX2_scoreOf_92 rfl ?_
              refine wa_goto (pc' := 97) dX2_scoreOf_93 (by decide) ?_
              refine wa_iadd (pc' := 98) dX2_scoreOf_97 rfl ?_
              refine wa_iload (pc' := 100) dX2_scoreOf_98 rfl rfl ?_
              refine wa_iload (pc' := 102) dX2_scoreOf_100 rfl rfl ?_
              refine wa_icmp_ne (tgt := 109) (pc' := 105) dX2_scoreOf_102 (by decide) rfl (by omega) (by omega) (fun c102 => ?_) (fun c102 => ?_)
              · refine wa_iconst (pc' := 110) dX2_scoreOf_109 rfl ?_
                refine wa_iadd (pc' := 111) dX2_scoreOf_110 rfl ?_
                refine wa_iadd (pc' := 112) dX2_scoreOf_111 rfl ?_
                refine wa_istore (pc' := 114) (ls' := [(5, _), (8, _), (7, _), (6, _), (4, _), (3, _), (0, _), (1, _), (2, _)]) dX2_scoreOf_112 rfl (by decide) rfl ?_
                refine wa_iinc (pc' := 117) (ls' := [(6, _), (5, _), (8, _), (7, _), (4, _), (3, _), (0, _), (1, _), (2, _)]) dX2_scoreOf_114 rfl rfl (by decide) rfl ?_
                refine wa_goto (pc' := 23) dX2_scoreOf_117 (by decide) ?_
                refine wa_sub [0, 1, 4, 5, 6, 7, 8] rfl ?_
                refine ih (i + 1) _ (by omega) (by omega) ?_ ?_
                · (try constructor) <;> omega
                · rw [← hR, scR]
                  congr 1
                  rw [sc1]
                  (repeat' split) <;> omega
              · refine wa_iconst (pc' := 106) dX2_scoreOf_105 rfl ?_
                refine wa_goto (pc' := 110) dX2_scoreOf_106 (by decide) ?_
                refine wa_iadd (pc' := 111) dX2_scoreOf_110 rfl ?_
                refine wa_iadd (pc' := 112) dX2_scoreOf_111 rfl ?_
                refine wa_istore (pc' := 114) (ls' := [(5, _), (8, _), (7, _), (6, _), (4, _), (3, _), (0, _), (1, _), (2, _)]) dX2_scoreOf_112 rfl (by decide) rfl ?_
                refine wa_iinc (pc' := 117) (ls' := [(6, _), (5, _), (8, _), (7, _), (4, _), (3, _), (0, _), (1, _), (2, _)]) dX2_scoreOf_114 rfl rfl (by decide) rfl ?_
                refine wa_goto (pc' := 23) dX2_scoreOf_117 (by decide) ?_
                refine wa_sub [0, 1, 4, 5, 6, 7, 8] rfl ?_
                refine ih (i + 1) _ (by omega) (by omega) ?_ ?_
                · (try constructor) <;> omega
                · rw [← hR, scR]
                  congr 1
                  rw [sc1]
                  (repeat' split) <;> omega
          · refine wa_iconst (pc' := 78) dX2_scoreOf_77 rfl ?_
            refine wa_goto (pc' := 82) dX2_scoreOf_78 (by decide) ?_
            refine wa_istore (pc' := 84) (ls' := [(8, _), (7, _), (6, _), (5, _), (4, _), (3, _), (0, _), (1, _), (2, _)]) dX2_scoreOf_82 rfl (by decide) rfl ?_
            refine wa_iload (pc' := 86) dX2_scoreOf_84 rfl rfl ?_
            refine wa_iconst (pc' := 87) dX2_scoreOf_86 rfl ?_
            refine wa_iload (pc' := 89) dX2_scoreOf_87 rfl rfl ?_
            refine wa_if_eq (tgt := 96) (pc' := 92) dX2_scoreOf_89 (by decide) rfl (by omega) (fun c89 => ?_) (fun c89 => ?_)
            · refine wa_iconst (pc' := 97) dX2_scoreOf_96 rfl ?_
              refine wa_iadd (pc' := 98) dX2_scoreOf_97 rfl ?_
              refine wa_iload (pc' := 100) dX2_scoreOf_98 rfl rfl ?_
              refine wa_iload (pc' := 102) dX2_scoreOf_100 rfl rfl ?_
              refine wa_icmp_ne (tgt := 109) (pc' := 105) dX2_scoreOf_102 (by decide) rfl (by omega) (by omega) (fun c102 => ?_) (fun c102 => ?_)
              · refine wa_iconst (pc' := 110) dX2_scoreOf_109 rfl ?_
                refine wa_iadd (pc' := 111) dX2_scoreOf_110 rfl ?_
                refine wa_iadd (pc' := 112) dX2_scoreOf_111 rfl ?_
                refine wa_istore (pc' := 114) (ls' := [(5, _), (8, _), (7, _), (6, _), (4, _), (3, _), (0, _), (1, _), (2, _)]) dX2_scoreOf_112 rfl (by decide) rfl ?_
                refine wa_iinc (pc' := 117) (ls' := [(6, _), (5, _), (8, _), (7, _), (4, _), (3, _), (0, _), (1, _), (2, _)]) dX2_scoreOf_114 rfl rfl (by decide) rfl ?_
                refine wa_goto (pc' := 23) dX2_scoreOf_117 (by decide) ?_
                refine wa_sub [0, 1, 4, 5, 6, 7, 8] rfl ?_
                refine ih (i + 1) _ (by omega) (by omega) ?_ ?_
                · (try constructor) <;> omega
                · rw [← hR, scR]
                  congr 1
                  rw [sc1]
                  (repeat' split) <;> omega
              · refine wa_iconst (pc' := 106) dX2_scoreOf_105 rfl ?_
                refine wa_goto (pc' := 110) dX2_scoreOf_106 (by decide) ?_
                refine wa_iadd (pc' := 111) dX2_scoreOf_110 rfl ?_
                refine wa_iadd (pc' := 112) dX2_scoreOf_111 rfl ?_
                refine wa_istore (pc' := 114) (ls' := [(5, _), (8, _), (7, _), (6, _), (4, _), (3, _), (0, _), (1, _), (2, _)]) dX2_scoreOf_112 rfl (by decide) rfl ?_
                refine wa_iinc (pc' := 117) (ls' := [(6, _), (5, _), (8, _), (7, _), (4, _), (3, _), (0, _), (1, _), (2, _)]) dX2_scoreOf_114 rfl rfl (by decide) rfl ?_
                refine wa_goto (pc' := 23) dX2_scoreOf_117 (by decide) ?_
                refine wa_sub [0, 1, 4, 5, 6, 7, 8] rfl ?_
                refine ih (i + 1) _ (by omega) (by omega) ?_ ?_
                · (try constructor) <;> omega
                · rw [← hR, scR]
                  congr 1
                  rw [sc1]
                  (repeat' split) <;> omega
            · refine wa_iconst (pc' := 93) dX2_scoreOf_92 rfl ?_
              refine wa_goto (pc' := 97) dX2_scoreOf_93 (by decide) ?_
              refine wa_iadd (pc' := 98) dX2_scoreOf_97 rfl ?_
              refine wa_iload (pc' := 100) dX2_scoreOf_98 rfl rfl ?_
              refine wa_iload (pc' := 102) dX2_scoreOf_100 rfl rfl ?_
              refine wa_icmp_ne (tgt := 109) (pc' := 105) dX2_scoreOf_102 (by decide) rfl (by omega) (by omega) (fun c102 => ?_) (fun c102 => ?_)
              · refine wa_iconst (pc' := 110) dX2_scoreOf_109 rfl ?_
                refine wa_iadd (pc' := 111) dX2_scoreOf_110 rfl ?_
                refine wa_iadd (pc' := 112) dX2_scoreOf_111 rfl ?_
                refine wa_istore (pc' := 114) (ls' := [(5, _), (8, _), (7, _), (6, _), (4, _), (3, _), (0, _), (1, _), (2, _)]) dX2_scoreOf_112 rfl (by decide) rfl ?_
                refine wa_iinc (pc' := 117) (ls' := [(6, _), (5, _), (8, _), (7, _), (4, _), (3, _), (0, _), (1, _), (2, _)]) dX2_scoreOf_114 rfl rfl (by decide) rfl ?_
                refine wa_goto (pc' := 23) dX2_scoreOf_117 (by decide) ?_
                refine wa_sub [0, 1, 4, 5, 6, 7, 8] rfl ?_
                refine ih (i + 1) _ (by omega) (by omega) ?_ ?_
                · (try constructor) <;> omega
                · rw [← hR, scR]
                  congr 1
                  rw [sc1]
                  (repeat' split) <;> omega
              · refine wa_iconst (pc' := 106) dX2_scoreOf_105 rfl ?_
                refine wa_goto (pc' := 110) dX2_scoreOf_106 (by decide) ?_
                refine wa_iadd (pc' := 111) dX2_scoreOf_110 rfl ?_
                refine wa_iadd (pc' := 112) dX2_scoreOf_111 rfl ?_
                refine wa_istore (pc' := 114) (ls' := [(5, _), (8, _), (7, _), (6, _), (4, _), (3, _), (0, _), (1, _), (2, _)]) dX2_scoreOf_112 rfl (by decide) rfl ?_
                refine wa_iinc (pc' := 117) (ls' := [(6, _), (5, _), (8, _), (7, _), (4, _), (3, _), (0, _), (1, _), (2, _)]) dX2_scoreOf_114 rfl rfl (by decide) rfl ?_
                refine wa_goto (pc' := 23) dX2_scoreOf_117 (by decide) ?_
                refine wa_sub [0, 1, 4, 5, 6, 7, 8] rfl ?_
                refine ih (i + 1) _ (by omega) (by omega) ?_ ?_
                · (try constructor) <;> omega
                · rw [← hR, scR]
                  congr 1
                  rw [sc1]
                  (repeat' split) <;> omega
      · refine wa_iinc (pc' := 54) (ls' := [(5, _), (7, _), (6, _), (4, _), (3, _), (0, _), (1, _), (2, _)]) dX2_scoreOf_51 rfl rfl (by decide) rfl ?_
        refine wa_iload (pc' := 56) dX2_scoreOf_54 rfl rfl ?_
        refine wa_iload_n (pc' := 57) dX2_scoreOf_56 rfl rfl rfl ?_
        refine wa_icmp_ne (tgt := 114) (pc' := 60) dX2_scoreOf_57 (by decide) rfl (by omega) (by omega) (fun c57 => ?_) (fun c57 => ?_)
        · refine wa_iinc (pc' := 117) (ls' := [(6, _), (5, _), (7, _), (4, _), (3, _), (0, _), (1, _), (2, _)]) dX2_scoreOf_114 rfl rfl (by decide) rfl ?_
          refine wa_goto (pc' := 23) dX2_scoreOf_117 (by decide) ?_
          refine wa_sub [0, 1, 3, 4, 5, 6, 7] rfl ?_
          refine ih (i + 1) _ (by omega) (by omega) ?_ ?_
          · (try constructor) <;> omega
          · rw [← hR, scR]
            congr 1
            rw [sc1]
            (repeat' split) <;> omega
        · refine wa_aload_n (pc' := 61) dX2_scoreOf_60 rfl rfl rfl ?_
          refine wa_iload (pc' := 63) dX2_scoreOf_61 rfl rfl ?_
          refine wa_iconst (pc' := 64) dX2_scoreOf_63 rfl ?_
          refine wa_rV (pc' := 67) (k_X8_get _ _ _ _ _ _ _ _ _ (by omega) (by omega)) ok_X8_get lm_X2_46 dX2_scoreOf_64 rfl [0, 1, 2, 3] rfl (by decide) rfl rfl rfl rfl rfl (by decide) (Nat.le_of_ble_eq_true rfl) rfl (by decide) (by decide) rfl ?_
          refine wa_dS (pc' := 70) (w' := [_, _, _, _]) (k_X5_at _ (by omega)) ok_X5_at lm_X2_49 dX2_scoreOf_67 rfl [] rfl (by decide) rfl rfl (by decide) (Nat.le_of_ble_eq_true rfl) rfl (by decide) (by decide) rfl rfl rfl ?_
          refine wa_kgetN (q := "") (pc' := 73) (v := zI (zMinor.getD (F (i * 5 + 3)).toNat 0)) (zk_minor (by omega)) lk_X2_55 dX2_scoreOf_70 rfl ?_
          refine wa_iload_n (pc' := 74) dX2_scoreOf_73 rfl rfl rfl ?_
          refine wa_icmp_ne (tgt := 81) (pc' := 77) dX2_scoreOf_74 (by decide) rfl (by omega) (by omega) (fun c74 => ?_) (fun c74 => ?_)
          · refine wa_iconst (pc' := 82) dX2_scoreOf_81 rfl ?_
            refine wa_istore (pc' := 84) (ls' := [(8, _), (5, _), (7, _), (6, _), (4, _), (3, _), (0, _), (1, _), (2, _)]) dX2_scoreOf_82 rfl (by decide) rfl ?_
            refine wa_iload (pc' := 86) dX2_scoreOf_84 rfl rfl ?_
            refine wa_iconst (pc' := 87) dX2_scoreOf_86 rfl ?_
            refine wa_iload (pc' := 89) dX2_scoreOf_87 rfl rfl ?_
            refine wa_if_eq (tgt := 96) (pc' := 92) dX2_scoreOf_89 (by decide) rfl (by omega) (fun c89 => ?_) (fun c89 => ?_)
            · refine wa_iconst (pc' := 97) dX2_scoreOf_96 rfl ?_
              refine wa_iadd (pc' := 98) dX2_scoreOf_97 rfl ?_
              refine wa_iload (pc' := 100) dX2_scoreOf_98 rfl rfl ?_
              refine wa_iload (pc' := 102) dX2_scoreOf_100 rfl rfl ?_
              refine wa_icmp_ne (tgt := 109) (pc' := 105) dX2_scoreOf_102 (by decide) rfl (by omega) (by omega) (fun c102 => ?_) (fun c102 => ?_)
              · refine wa_iconst (pc' := 110) dX2_scoreOf_109 rfl ?_
                refine wa_iadd (pc' := 111) dX2_scoreOf_110 rfl ?_
                refine wa_iadd (pc' := 112) dX2_scoreOf_111 rfl ?_
                refine wa_istore (pc' := 114) (ls' := [(5, _), (8, _), (7, _), (6, _), (4, _), (3, _), (0, _), (1, _), (2, _)]) dX2_scoreOf_112 rfl (by decide) rfl ?_
                refine wa_iinc (pc' := 117) (ls' := [(6, _), (5, _), (8, _), (7, _), (4, _), (3, _), (0, _), (1, _), (2, _)]) dX2_scoreOf_114 rfl rfl (by decide) rfl ?_
                refine wa_goto (pc' := 23) dX2_scoreOf_117 (by decide) ?_
                refine wa_sub [0, 1, 4, 5, 6, 7, 8] rfl ?_
                refine ih (i + 1) _ (by omega) (by omega) ?_ ?_
                · (try constructor) <;> omega
                · rw [← hR, scR]
                  congr 1
                  rw [sc1]
                  (repeat' split) <;> omega
              · refine wa_iconst (pc' := 106) dX2_scoreOf_105 rfl ?_
                refine wa_goto (pc' := 110) dX2_scoreOf_106 (by decide) ?_
                refine wa_iadd (pc' := 111) dX2_scoreOf_110 rfl ?_
                refine wa_iadd (pc' := 112) dX2_scoreOf_111 rfl ?_
                refine wa_istore (pc' := 114) (ls' := [(5, _), (8, _), (7, _), (6, _), (4, _), (3, _), (0, _), (1, _), (2, _)]) dX2_scoreOf_112 rfl (by decide) rfl ?_
                refine wa_iinc (pc' := 117) (ls' := [(6, _), (5, _), (8, _), (7, _), (4, _), (3, _), (0, _), (1, _), (2, _)]) dX2_scoreOf_114 rfl rfl (by decide) rfl ?_
                refine wa_goto (pc' := 23) dX2_scoreOf_117 (by decide) ?_
                refine wa_sub [0, 1, 4, 5, 6, 7, 8] rfl ?_
                refine ih (i + 1) _ (by omega) (by omega) ?_ ?_
                · (try constructor) <;> omega
                · rw [← hR, scR]
                  congr 1
                  rw [sc1]
                  (repeat' split) <;> omega
            · refine wa_iconst (pc' := 93) dX2_scoreOf_92 rfl ?_
              refine wa_goto (pc' := 97) dX2_scoreOf_93 (by decide) ?_
              refine wa_iadd (pc' := 98) dX2_scoreOf_97 rfl ?_
              refine wa_iload (pc' := 100) dX2_scoreOf_98 rfl rfl ?_
              refine wa_iload (pc' := 102) dX2_scoreOf_100 rfl rfl ?_
              refine wa_icmp_ne (tgt := 109) (pc' := 105) dX2_scoreOf_102 (by decide) rfl (by omega) (by omega) (fun c102 => ?_) (fun c102 => ?_)
              · refine wa_iconst (pc' := 110) dX2_scoreOf_109 rfl ?_
                refine wa_iadd (pc' := 111) dX2_scoreOf_110 rfl ?_
                refine wa_iadd (pc' := 112) dX2_scoreOf_111 rfl ?_
                refine wa_istore (pc' := 114) (ls' := [(5, _), (8, _), (7, _), (6, _), (4, _), (3, _), (0, _), (1, _), (2, _)]) dX2_scoreOf_112 rfl (by decide) rfl ?_
                refine wa_iinc (pc' := 117) (ls' := [(6, _), (5, _), (8, _), (7, _), (4, _), (3, _), (0, _), (1, _), (2, _)]) dX2_scoreOf_114 rfl rfl (by decide) rfl ?_
                refine wa_goto (pc' := 23) dX2_scoreOf_117 (by decide) ?_
                refine wa_sub [0, 1, 4, 5, 6, 7, 8] rfl ?_
                refine ih (i + 1) _ (by omega) (by omega) ?_ ?_
                · (try constructor) <;> omega
                · rw [← hR, scR]
                  congr 1
                  rw [sc1]
                  (repeat' split) <;> omega
              · refine wa_iconst (pc' := 106) dX2_scoreOf_105 rfl ?_
                refine wa_goto (pc' := 110) dX2_scoreOf_106 (by decide) ?_
                refine wa_iadd (pc' := 111) dX2_scoreOf_110 rfl ?_
                refine wa_iadd (pc' := 112) dX2_scoreOf_111 rfl ?_
                refine wa_istore (pc' := 114) (ls' := [(5, _), (8, _), (7, _), (6, _), (4, _), (3, _), (0, _), (1, _), (2, _)]) dX2_scoreOf_112 rfl (by decide) rfl ?_
                refine wa_iinc (pc' := 117) (ls' := [(6, _), (5, _), (8, _), (7, _), (4, _), (3, _), (0, _), (1, _), (2, _)]) dX2_scoreOf_114 rfl rfl (by decide) rfl ?_
                refine wa_goto (pc' := 23) dX2_scoreOf_117 (by decide) ?_
                refine wa_sub [0, 1, 4, 5, 6, 7, 8] rfl ?_
                refine ih (i + 1) _ (by omega) (by omega) ?_ ?_
                · (try constructor) <;> omega
                · rw [← hR, scR]
                  congr 1
                  rw [sc1]
                  (repeat' split) <;> omega
          · refine wa_iconst (pc' := 78) dX2_scoreOf_77 rfl ?_
            refine wa_goto (pc' := 82) dX2_scoreOf_78 (by decide) ?_
            refine wa_istore (pc' := 84) (ls' := [(8, _), (5, _), (7, _), (6, _), (4, _), (3, _), (0, _), (1, _), (2, _)]) dX2_scoreOf_82 rfl (by decide) rfl ?_
            refine wa_iload (pc' := 86) dX2_scoreOf_84 rfl rfl ?_
            refine wa_iconst (pc' := 87) dX2_scoreOf_86 rfl ?_
            refine wa_iload (pc' := 89) dX2_scoreOf_87 rfl rfl ?_
            refine wa_if_eq (tgt := 96) (pc' := 92) dX2_scoreOf_89 (by decide) rfl (by omega) (fun c89 => ?_) (fun c89 => ?_)
            · refine wa_iconst (pc' := 97) dX2_scoreOf_96 rfl ?_
              refine wa_iadd (pc' := 98) dX2_scoreOf_97 rfl ?_
              refine wa_iload (pc' := 100) dX2_scoreOf_98 rfl rfl ?_
              refine wa_iload (pc' := 102) dX2_scoreOf_100 rfl rfl ?_
              refine wa_icmp_ne (tgt := 109) (pc' := 105) dX2_scoreOf_102 (by decide) rfl (by omega) (by omega) (fun c102 => ?_) (fun c102 => ?_)
              · refine wa_iconst (pc' := 110) dX2_scoreOf_109 rfl ?_
                refine wa_iadd (pc' := 111) dX2_scoreOf_110 rfl ?_
                refine wa_iadd (pc' := 112) dX2_scoreOf_111 rfl ?_
                refine wa_istore (pc' := 114) (ls' := [(5, _), (8, _), (7, _), (6, _), (4, _), (3, _), (0, _), (1, _), (2, _)]) dX2_scoreOf_112 rfl (by decide) rfl ?_
                refine wa_iinc (pc' := 117) (ls' := [(6, _), (5, _), (8, _), (7, _), (4, _), (3, _), (0, _), (1, _), (2, _)]) dX2_scoreOf_114 rfl rfl (by decide) rfl ?_
                refine wa_goto (pc' := 23) dX2_scoreOf_117 (by decide) ?_
                refine wa_sub [0, 1, 4, 5, 6, 7, 8] rfl ?_
                refine ih (i + 1) _ (by omega) (by omega) ?_ ?_
                · (try constructor) <;> omega
                · rw [← hR, scR]
                  congr 1
                  rw [sc1]
                  (repeat' split) <;> omega
              · refine wa_iconst (pc' := 106) dX2_scoreOf_105 rfl ?_
                refine wa_goto (pc' := 110) dX2_scoreOf_106 (by decide) ?_
                refine wa_iadd (pc' := 111) dX2_scoreOf_110 rfl ?_
                refine wa_iadd (pc' := 112) dX2_scoreOf_111 rfl ?_
                refine wa_istore (pc' := 114) (ls' := [(5, _), (8, _), (7, _), (6, _), (4, _), (3, _), (0, _), (1, _), (2, _)]) dX2_scoreOf_112 rfl (by decide) rfl ?_
                refine wa_iinc (pc' := 117) (ls' := [(6, _), (5, _), (8, _), (7, _), (4, _), (3, _), (0, _), (1, _), (2, _)]) dX2_scoreOf_114 rfl rfl (by decide) rfl ?_
                refine wa_goto (pc' := 23) dX2_scoreOf_117 (by decide) ?_
                refine wa_sub [0, 1, 4, 5, 6, 7, 8] rfl ?_
                refine ih (i + 1) _ (by omega) (by omega) ?_ ?_
                · (try constructor) <;> omega
                · rw [← hR, scR]
                  congr 1
                  rw [sc1]
                  (repeat' split) <;> omega
            · refine wa_iconst (pc' := 93) dX2_scoreOf_92 rfl ?_
              refine wa_goto (pc' := 97) dX2_scoreOf_93 (by decide) ?_
              refine wa_iadd (pc' := 98) dX2_scoreOf_97 rfl ?_
              refine wa_iload (pc' := 100) dX2_scoreOf_98 rfl rfl ?_
              refine wa_iload (pc' := 102) dX2_scoreOf_100 rfl rfl ?_
              refine wa_icmp_ne (tgt := 109) (pc' := 105) dX2_scoreOf_102 (by decide) rfl (by omega) (by omega) (fun c102 => ?_) (fun c102 => ?_)
              · refine wa_iconst (pc' := 110) dX2_scoreOf_109 rfl ?_
                refine wa_iadd (pc' := 111) dX2_scoreOf_110 rfl ?_
                refine wa_iadd (pc' := 112) dX2_scoreOf_111 rfl ?_
                refine wa_istore (pc' := 114) (ls' := [(5, _), (8, _), (7, _), (6, _), (4, _), (3, _), (0, _), (1, _), (2, _)]) dX2_scoreOf_112 rfl (by decide) rfl ?_
                refine wa_iinc (pc' := 117) (ls' := [(6, _), (5, _), (8, _), (7, _), (4, _), (3, _), (0, _), (1, _), (2, _)]) dX2_scoreOf_114 rfl rfl (by decide) rfl ?_
                refine wa_goto (pc' := 23) dX2_scoreOf_117 (by decide) ?_
                refine wa_sub [0, 1, 4, 5, 6, 7, 8] rfl ?_
                refine ih (i + 1) _ (by omega) (by omega) ?_ ?_
                · (try constructor) <;> omega
                · rw [← hR, scR]
                  congr 1
                  rw [sc1]
                  (repeat' split) <;> omega
              · refine wa_iconst (pc' := 106) dX2_scoreOf_105 rfl ?_
                refine wa_goto (pc' := 110) dX2_scoreOf_106 (by decide) ?_
                refine wa_iadd (pc' := 111) dX2_scoreOf_110 rfl ?_
                refine wa_iadd (pc' := 112) dX2_scoreOf_111 rfl ?_
                refine wa_istore (pc' := 114) (ls' := [(5, _), (8, _), (7, _), (6, _), (4, _), (3, _), (0, _), (1, _), (2, _)]) dX2_scoreOf_112 rfl (by decide) rfl ?_
                refine wa_iinc (pc' := 117) (ls' := [(6, _), (5, _), (8, _), (7, _), (4, _), (3, _), (0, _), (1, _), (2, _)]) dX2_scoreOf_114 rfl rfl (by decide) rfl ?_
                refine wa_goto (pc' := 23) dX2_scoreOf_117 (by decide) ?_
                refine wa_sub [0, 1, 4, 5, 6, 7, 8] rfl ?_
                refine ih (i + 1) _ (by omega) (by omega) ?_ ?_
                · (try constructor) <;> omega
                · rw [← hR, scR]
                  congr 1
                  rw [sc1]
                  (repeat' split) <;> omega

set_option maxRecDepth 10000 in
set_option maxHeartbeats 1000000 in
theorem k_X2_scoreOf (L T F : Int → Int) (lc cc sg mn : Int) (sg9 mn9 : Int) (hs : -6 ≤ sg9 ∧ sg9 ≤ 6) (hm : mn9 = 0 ∨ mn9 = 1) (hc : 0 ≤ cc ∧ cc ≤ 40) (hF : ∀ j : Int, 0 ≤ j → j < 200 → -1000 ≤ F j ∧ F j ≤ 1000) (hQ : ∀ i : Int, 0 ≤ i → i < cc → 0 ≤ F (i * 5 + 3) ∧ F (i * 5 + 3) < 10) : zMet q_X2_scoreOf 3 0 0 [zR 0, zI sg9, zI mn9] (wSh L T F lc cc sg mn) (zD (some (zI (scF F cc sg9 mn9))) (wSh L T F lc cc sg mn)) := by
  refine z_introF (ls := [(0, _), (1, _), (2, _)]) (by decide +kernel) rfl (fun _ _ => rfl) (fun _ _ => Nat.le_of_ble_eq_true rfl) ?_
  have hT : -20 ≤ tonO sg9 mn9 ∧ tonO sg9 mn9 ≤ 20 := by unfold tonO; split <;> omega
  refine wa_iload_n (pc' := 1) dX2_scoreOf_0 rfl rfl rfl ?_
  refine wa_iload_n (pc' := 2) dX2_scoreOf_1 rfl rfl rfl ?_
  refine wa_dS (pc' := 5) (w' := [_, _, _, _]) (k_X2_tonicOf sg9 mn9 (by omega)) ok_X2_tonicOf lm_X2_11 dX2_scoreOf_2 rfl [] rfl (by decide) rfl rfl (by decide) (Nat.le_of_ble_eq_true rfl) rfl (by decide) (by decide) rfl rfl rfl ?_
  refine wa_dS (pc' := 8) (w' := [_, _, _, _]) (k_X4_pitchClass (tonO sg9 mn9) (by omega)) ok_X4_pitchClass lm_X2_28 dX2_scoreOf_5 rfl [] rfl (by decide) rfl rfl (by decide) (Nat.le_of_ble_eq_true rfl) rfl (by decide) (by decide) rfl rfl rfl ?_
  refine wa_istore_n (pc' := 9) (ls' := [(3, _), (0, _), (1, _), (2, _)]) dX2_scoreOf_8 rfl rfl (by decide) rfl ?_
  refine wa_aload_n (pc' := 10) dX2_scoreOf_9 rfl rfl rfl ?_
  refine wa_rV (pc' := 13) (k_X8_chordCount _ _ _ _ _ _ _) ok_X8_chordCount lm_X2_40 dX2_scoreOf_10 rfl [0, 1, 2, 3] rfl (by decide) rfl rfl rfl rfl rfl (by decide) (Nat.le_of_ble_eq_true rfl) rfl (by decide) (by decide) rfl ?_
  refine wa_iconst (pc' := 14) dX2_scoreOf_13 rfl ?_
  refine wa_isub (pc' := 15) dX2_scoreOf_14 rfl ?_
  refine wa_istore (pc' := 17) (ls' := [(4, _), (3, _), (0, _), (1, _), (2, _)]) dX2_scoreOf_15 rfl (by decide) rfl ?_
  refine wa_iconst (pc' := 18) dX2_scoreOf_17 rfl ?_
  refine wa_istore (pc' := 20) (ls' := [(5, _), (4, _), (3, _), (0, _), (1, _), (2, _)]) dX2_scoreOf_18 rfl (by decide) rfl ?_
  refine wa_iconst (pc' := 21) dX2_scoreOf_20 rfl ?_
  refine wa_istore (pc' := 23) (ls' := [(6, _), (5, _), (4, _), (3, _), (0, _), (1, _), (2, _)]) dX2_scoreOf_21 rfl (by decide) rfl ?_
  exact l_scoreOf L T F lc cc sg mn sg9 mn9 _ hs hm hc hF hQ cc.toNat 0 0 (by omega) (by omega) (by omega) rfl

set_option maxRecDepth 10000 in
set_option maxHeartbeats 1000000 in
theorem l_bestSig (L T F : Int → Int) (lc cc sg mn : Int) (mn9 R : Int) (hm : mn9 = 0 ∨ mn9 = 1) (hc : 0 ≤ cc ∧ cc ≤ 40) (hF : ∀ j : Int, 0 ≤ j → j < 200 → -1000 ≤ F j ∧ F j ≤ 1000) (hQ : ∀ i : Int, 0 ≤ i → i < cc → 0 ≤ F (i * 5 + 3) ∧ F (i * 5 + 3) < 10) : ∀ (m : Nat) (z b s : Int), 1 ≤ z → z + m = 7 → -6 ≤ b ∧ b ≤ 6 → 0 ≤ s ∧ s ≤ 240 → bsR (fun z => scF F cc z mn9) m z b s = R → Wa q_X2_bestSignature 4 0 0 4 (zD (some (zI R)) (wSh L T F lc cc sg mn)) 12 [(4, zI z), (3, zI s), (2, zI b), (0, zR 0), (1, zI mn9)] [] (wSh L T F lc cc sg mn) 0 0 := by
  intro m
  induction m with
  | zero =>
    intro z b s h0 hm1 hb hs hR
    refine wa_iload (pc' := 14) dX2_bestSignature_12 rfl rfl ?_
    refine wa_bipush (pc' := 16) dX2_bestSignature_14 rfl rfl ?_
    refine wa_icmp_gt (tgt := 69) (pc' := 19) dX2_bestSignature_16 (by decide) rfl (by omega) (by omega) (fun c16 => ?_) (fun c16 => ?_)
    · refine wa_iload_n (pc' := 70) dX2_bestSignature_69 rfl rfl rfl ?_
      refine wa_iret dX2_bestSignature_70 rfl (by decide) (by decide) ?_
      exact zD_i (by rw [← hR]; rfl) rfl
    · exact absurd c16 (by omega)
  | succ m ih =>
    intro z b s h0 hm1 hb hs hR
    have b1 := scF_b F z mn9 hc
    have b2 := scF_b F (-z) mn9 hc
    simp only [bsR] at hR
    refine wa_iload (pc' := 14) dX2_bestSignature_12 rfl rfl ?_
    refine wa_bipush (pc' := 16) dX2_bestSignature_14 rfl rfl ?_
    refine wa_icmp_gt (tgt := 69) (pc' := 19) dX2_bestSignature_16 (by decide) rfl (by omega) (by omega) (fun c16 => ?_) (fun c16 => ?_)
    · exact absurd c16 (by omega)
    · refine wa_aload_n (pc' := 20) dX2_bestSignature_19 rfl rfl rfl ?_
      refine wa_iload (pc' := 22) dX2_bestSignature_20 rfl rfl ?_
      refine wa_iload_n (pc' := 23) dX2_bestSignature_22 rfl rfl rfl ?_
      refine wa_rS (pc' := 26) (k_X2_scoreOf _ _ _ _ _ _ _ _ _ (by omega) (by omega) (by omega) (by assumption) (by assumption)) ok_X2_scoreOf lm_X2_63 dX2_bestSignature_23 rfl [0, 1, 2, 3] rfl (by decide) rfl rfl (by decide) (Nat.le_of_ble_eq_true rfl) rfl (by decide) (by decide) rfl ?_
      refine wa_istore (pc' := 28) (ls' := [(5, _), (4, _), (3, _), (2, _), (0, _), (1, _)]) dX2_bestSignature_26 rfl (by decide) rfl ?_
      refine wa_iload (pc' := 30) dX2_bestSignature_28 rfl rfl ?_
      refine wa_iload_n (pc' := 31) dX2_bestSignature_30 rfl rfl rfl ?_
      refine wa_icmp_le (tgt := 40) (pc' := 34) dX2_bestSignature_31 (by decide) rfl (by omega) (by omega) (fun c31 => ?_) (fun c31 => ?_)
      · refine wa_aload_n (pc' := 41) dX2_bestSignature_40 rfl rfl rfl ?_
        refine wa_iload (pc' := 43) dX2_bestSignature_41 rfl rfl ?_
        refine wa_ineg (pc' := 44) dX2_bestSignature_43 rfl ?_
        refine wa_iload_n (pc' := 45) dX2_bestSignature_44 rfl rfl rfl ?_
        refine wa_rS (pc' := 48) (k_X2_scoreOf _ _ _ _ _ _ _ _ _ (by omega) (by omega) (by omega) (by assumption) (by assumption)) ok_X2_scoreOf lm_X2_63 dX2_bestSignature_45 rfl [0, 1, 2, 3] rfl (by decide) rfl rfl (by decide) (Nat.le_of_ble_eq_true rfl) rfl (by decide) (by decide) rfl ?_
        refine wa_istore (pc' := 50) (ls' := [(6, _), (5, _), (4, _), (3, _), (2, _), (0, _), (1, _)]) dX2_bestSignature_48 rfl (by decide) rfl ?_
        refine wa_iload (pc' := 52) dX2_bestSignature_50 rfl rfl ?_
        refine wa_iload_n (pc' := 53) dX2_bestSignature_52 rfl rfl rfl ?_
        refine wa_icmp_le (tgt := 63) (pc' := 56) dX2_bestSignature_53 (by decide) rfl (by omega) (by omega) (fun c53 => ?_) (fun c53 => ?_)
        · refine wa_iinc (pc' := 66) (ls' := [(4, _), (6, _), (5, _), (3, _), (2, _), (0, _), (1, _)]) dX2_bestSignature_63 rfl rfl (by decide) rfl ?_
          refine wa_goto (pc' := 12) dX2_bestSignature_66 (by decide) ?_
          refine wa_sub [0, 3, 4, 5, 6] rfl ?_
          (repeat' split at hR) <;> first | omega | exact ih (z + 1) _ _ (by omega) (by omega) (by omega) (by omega) hR
        · refine wa_iload (pc' := 58) dX2_bestSignature_56 rfl rfl ?_
          refine wa_ineg (pc' := 59) dX2_bestSignature_58 rfl ?_
          refine wa_istore_n (pc' := 60) (ls' := [(2, _), (6, _), (5, _), (4, _), (3, _), (0, _), (1, _)]) dX2_bestSignature_59 rfl rfl (by decide) rfl ?_
          refine wa_iload (pc' := 62) dX2_bestSignature_60 rfl rfl ?_
          refine wa_istore_n (pc' := 63) (ls' := [(3, _), (2, _), (6, _), (5, _), (4, _), (0, _), (1, _)]) dX2_bestSignature_62 rfl rfl (by decide) rfl ?_
          refine wa_iinc (pc' := 66) (ls' := [(4, _), (3, _), (2, _), (6, _), (5, _), (0, _), (1, _)]) dX2_bestSignature_63 rfl rfl (by decide) rfl ?_
          refine wa_goto (pc' := 12) dX2_bestSignature_66 (by decide) ?_
          refine wa_sub [0, 1, 2, 5, 6] rfl ?_
          (repeat' split at hR) <;> first | omega | exact ih (z + 1) _ _ (by omega) (by omega) (by omega) (by omega) hR
      · refine wa_iload (pc' := 36) dX2_bestSignature_34 rfl rfl ?_
        refine wa_istore_n (pc' := 37) (ls' := [(2, _), (5, _), (4, _), (3, _), (0, _), (1, _)]) dX2_bestSignature_36 rfl rfl (by decide) rfl ?_
        refine wa_iload (pc' := 39) dX2_bestSignature_37 rfl rfl ?_
        refine wa_istore_n (pc' := 40) (ls' := [(3, _), (2, _), (5, _), (4, _), (0, _), (1, _)]) dX2_bestSignature_39 rfl rfl (by decide) rfl ?_
        refine wa_aload_n (pc' := 41) dX2_bestSignature_40 rfl rfl rfl ?_
        refine wa_iload (pc' := 43) dX2_bestSignature_41 rfl rfl ?_
        refine wa_ineg (pc' := 44) dX2_bestSignature_43 rfl ?_
        refine wa_iload_n (pc' := 45) dX2_bestSignature_44 rfl rfl rfl ?_
        refine wa_rS (pc' := 48) (k_X2_scoreOf _ _ _ _ _ _ _ _ _ (by omega) (by omega) (by omega) (by assumption) (by assumption)) ok_X2_scoreOf lm_X2_63 dX2_bestSignature_45 rfl [0, 1, 2, 3] rfl (by decide) rfl rfl (by decide) (Nat.le_of_ble_eq_true rfl) rfl (by decide) (by decide) rfl ?_
        refine wa_istore (pc' := 50) (ls' := [(6, _), (3, _), (2, _), (5, _), (4, _), (0, _), (1, _)]) dX2_bestSignature_48 rfl (by decide) rfl ?_
        refine wa_iload (pc' := 52) dX2_bestSignature_50 rfl rfl ?_
        refine wa_iload_n (pc' := 53) dX2_bestSignature_52 rfl rfl rfl ?_
        refine wa_icmp_le (tgt := 63) (pc' := 56) dX2_bestSignature_53 (by decide) rfl (by omega) (by omega) (fun c53 => ?_) (fun c53 => ?_)
        · refine wa_iinc (pc' := 66) (ls' := [(4, _), (6, _), (3, _), (2, _), (5, _), (0, _), (1, _)]) dX2_bestSignature_63 rfl rfl (by decide) rfl ?_
          refine wa_goto (pc' := 12) dX2_bestSignature_66 (by decide) ?_
          refine wa_sub [0, 2, 3, 5, 6] rfl ?_
          (repeat' split at hR) <;> first | omega | exact ih (z + 1) _ _ (by omega) (by omega) (by omega) (by omega) hR
        · refine wa_iload (pc' := 58) dX2_bestSignature_56 rfl rfl ?_
          refine wa_ineg (pc' := 59) dX2_bestSignature_58 rfl ?_
          refine wa_istore_n (pc' := 60) (ls' := [(2, _), (6, _), (3, _), (5, _), (4, _), (0, _), (1, _)]) dX2_bestSignature_59 rfl rfl (by decide) rfl ?_
          refine wa_iload (pc' := 62) dX2_bestSignature_60 rfl rfl ?_
          refine wa_istore_n (pc' := 63) (ls' := [(3, _), (2, _), (6, _), (5, _), (4, _), (0, _), (1, _)]) dX2_bestSignature_62 rfl rfl (by decide) rfl ?_
          refine wa_iinc (pc' := 66) (ls' := [(4, _), (3, _), (2, _), (6, _), (5, _), (0, _), (1, _)]) dX2_bestSignature_63 rfl rfl (by decide) rfl ?_
          refine wa_goto (pc' := 12) dX2_bestSignature_66 (by decide) ?_
          refine wa_sub [0, 1, 2, 5, 6] rfl ?_
          (repeat' split at hR) <;> first | omega | exact ih (z + 1) _ _ (by omega) (by omega) (by omega) (by omega) hR

set_option maxRecDepth 10000 in
set_option maxHeartbeats 1000000 in
theorem k_X2_bestSignature (L T F : Int → Int) (lc cc sg mn : Int) (mn9 : Int) (hm : mn9 = 0 ∨ mn9 = 1) (hc : 0 ≤ cc ∧ cc ≤ 40) (hF : ∀ j : Int, 0 ≤ j → j < 200 → -1000 ≤ F j ∧ F j ≤ 1000) (hQ : ∀ i : Int, 0 ≤ i → i < cc → 0 ≤ F (i * 5 + 3) ∧ F (i * 5 + 3) < 10) : zMet q_X2_bestSignature 4 0 0 [zR 0, zI mn9] (wSh L T F lc cc sg mn) (zD (some (zI (bsF F cc mn9))) (wSh L T F lc cc sg mn)) := by
  refine z_introF (ls := [(0, _), (1, _)]) (by decide +kernel) rfl (fun _ _ => rfl) (fun _ _ => Nat.le_of_ble_eq_true rfl) ?_
  have b0 := scF_b F 0 mn9 hc
  refine wa_iconst (pc' := 1) dX2_bestSignature_0 rfl ?_
  refine wa_istore_n (pc' := 2) (ls' := [(2, _), (0, _), (1, _)]) dX2_bestSignature_1 rfl rfl (by decide) rfl ?_
  refine wa_aload_n (pc' := 3) dX2_bestSignature_2 rfl rfl rfl ?_
  refine wa_iconst (pc' := 4) dX2_bestSignature_3 rfl ?_
  refine wa_iload_n (pc' := 5) dX2_bestSignature_4 rfl rfl rfl ?_
  refine wa_rS (pc' := 8) (k_X2_scoreOf _ _ _ _ _ _ _ _ _ (by omega) (by omega) (by omega) (by assumption) (by assumption)) ok_X2_scoreOf lm_X2_63 dX2_bestSignature_5 rfl [0, 1, 2, 3] rfl (by decide) rfl rfl (by decide) (Nat.le_of_ble_eq_true rfl) rfl (by decide) (by decide) rfl ?_
  refine wa_istore_n (pc' := 9) (ls' := [(3, _), (2, _), (0, _), (1, _)]) dX2_bestSignature_8 rfl rfl (by decide) rfl ?_
  refine wa_iconst (pc' := 10) dX2_bestSignature_9 rfl ?_
  refine wa_istore (pc' := 12) (ls' := [(4, _), (3, _), (2, _), (0, _), (1, _)]) dX2_bestSignature_10 rfl (by decide) rfl ?_
  exact l_bestSig L T F lc cc sg mn mn9 _ hm hc hF hQ 6 1 0 _ (by omega) (by omega) (by omega) b0 rfl

set_option maxRecDepth 10000 in
set_option maxHeartbeats 1000000 in
theorem k_X2_best (L T F : Int → Int) (lc cc sg mn : Int) (hc : 0 ≤ cc ∧ cc ≤ 40) (hF : ∀ j : Int, 0 ≤ j → j < 200 → -1000 ≤ F j ∧ F j ≤ 1000) (hQ : ∀ i : Int, 0 ≤ i → i < cc → 0 ≤ F (i * 5 + 3) ∧ F (i * 5 + 3) < 10) : zMet q_X2_best 5 0 0 [zR 0] (wSh L T F lc cc sg mn) (zD (some (zI (beF F cc))) (wSh L T F lc cc sg mn)) := by
  refine z_introF (ls := [(0, _)]) (by decide +kernel) rfl (fun _ _ => rfl) (fun _ _ => Nat.le_of_ble_eq_true rfl) ?_
  have b0 := bsF_b F cc 0
  have b1 := bsF_b F cc 1
  have s0 := scF_b F (bsF F cc 0) 0 hc
  have s1 := scF_b F (bsF F cc 1) 1 hc
  refine wa_aload_n (pc' := 1) dX2_best_0 rfl rfl rfl ?_
  refine wa_iconst (pc' := 2) dX2_best_1 rfl ?_
  refine wa_rS (pc' := 5) (k_X2_bestSignature _ _ _ _ _ _ _ _ (by omega) (by omega) (by assumption) (by assumption)) ok_X2_bestSignature lm_X2_59 dX2_best_2 rfl [0, 1, 2, 3] rfl (by decide) rfl rfl (by decide) (Nat.le_of_ble_eq_true rfl) rfl (by decide) (by decide) rfl ?_
  refine wa_istore_n (pc' := 6) (ls' := [(1, _), (0, _)]) dX2_best_5 rfl rfl (by decide) rfl ?_
  refine wa_aload_n (pc' := 7) dX2_best_6 rfl rfl rfl ?_
  refine wa_iconst (pc' := 8) dX2_best_7 rfl ?_
  refine wa_rS (pc' := 11) (k_X2_bestSignature _ _ _ _ _ _ _ _ (by omega) (by omega) (by assumption) (by assumption)) ok_X2_bestSignature lm_X2_59 dX2_best_8 rfl [0, 1, 2, 3] rfl (by decide) rfl rfl (by decide) (Nat.le_of_ble_eq_true rfl) rfl (by decide) (by decide) rfl ?_
  refine wa_istore_n (pc' := 12) (ls' := [(2, _), (1, _), (0, _)]) dX2_best_11 rfl rfl (by decide) rfl ?_
  refine wa_aload_n (pc' := 13) dX2_best_12 rfl rfl rfl ?_
  refine wa_iload_n (pc' := 14) dX2_best_13 rfl rfl rfl ?_
  refine wa_iconst (pc' := 15) dX2_best_14 rfl ?_
  refine wa_rS (pc' := 18) (k_X2_scoreOf _ _ _ _ _ _ _ _ _ (by omega) (by omega) (by omega) (by assumption) (by assumption)) ok_X2_scoreOf lm_X2_63 dX2_best_15 rfl [0, 1, 2, 3] rfl (by decide) rfl rfl (by decide) (Nat.le_of_ble_eq_true rfl) rfl (by decide) (by decide) rfl ?_
  refine wa_aload_n (pc' := 19) dX2_best_18 rfl rfl rfl ?_
  refine wa_iload_n (pc' := 20) dX2_best_19 rfl rfl rfl ?_
  refine wa_iconst (pc' := 21) dX2_best_20 rfl ?_
  refine wa_rS (pc' := 24) (k_X2_scoreOf _ _ _ _ _ _ _ _ _ (by omega) (by omega) (by omega) (by assumption) (by assumption)) ok_X2_scoreOf lm_X2_63 dX2_best_21 rfl [0, 1, 2, 3] rfl (by decide) rfl rfl (by decide) (Nat.le_of_ble_eq_true rfl) rfl (by decide) (by decide) rfl ?_
  refine wa_icmp_le (tgt := 36) (pc' := 27) dX2_best_24 (by decide) rfl (by omega) (by omega) (fun c24 => ?_) (fun c24 => ?_)
  · refine wa_iload_n (pc' := 37) dX2_best_36 rfl rfl rfl ?_
    refine wa_iconst (pc' := 38) dX2_best_37 rfl ?_
    refine wa_dS (pc' := 41) (w' := [_, _, _, _]) (k_X2_tonicOf _ _ (by omega)) ok_X2_tonicOf lm_X2_11 dX2_best_38 rfl [] rfl (by decide) rfl rfl (by decide) (Nat.le_of_ble_eq_true rfl) rfl (by decide) (by decide) rfl rfl rfl ?_
    refine wa_iret dX2_best_41 rfl (by decide) (by decide) ?_
    first | exact zD_i (by rw [beF, if_pos (by omega)]) rfl | exact zD_i (by rw [beF, if_neg (by omega)]) rfl
  · refine wa_bipush (pc' := 29) dX2_best_27 rfl rfl ?_
    refine wa_iload_n (pc' := 30) dX2_best_29 rfl rfl rfl ?_
    refine wa_iconst (pc' := 31) dX2_best_30 rfl ?_
    refine wa_dS (pc' := 34) (w' := [_, _, _, _]) (k_X2_tonicOf _ _ (by omega)) ok_X2_tonicOf lm_X2_11 dX2_best_31 rfl [] rfl (by decide) rfl rfl (by decide) (Nat.le_of_ble_eq_true rfl) rfl (by decide) (by decide) rfl rfl rfl ?_
    refine wa_iadd (pc' := 35) dX2_best_34 rfl ?_
    refine wa_iret dX2_best_35 rfl (by decide) (by decide) ?_
    first | exact zD_i (by rw [beF, if_pos (by omega)]) rfl | exact zD_i (by rw [beF, if_neg (by omega)]) rfl

