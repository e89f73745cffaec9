/-! Notes and Quality -/
def pcl (p : Int) : Int := 7 * p % 12
def plf (lo pc : Int) : Int := lo + (7 * pc - lo) % 12
def acc (p : Int) : Int := (p - -1) / 7
def nat9 (c : Int) : Int := if 65 ≤ c ∧ c ≤ 71 then -1 + zidx c else 100
def zabs (a : Int) : Int := if 0 ≤ a then a else -a
def spl (pc sig si : Int) : Int := if si = 1 ∧ zabs (acc (plf (sig - 3) pc)) = 2 then plf (-1) pc else plf (sig - 3) pc
def noteL (p : Int) : List Int := (zBytes.getD 10 []).getD ((p - -1) % 7).toNat 0 :: List.replicate (zabs (acc p)).toNat (if 0 < acc p then 35 else 98)
def zrs (a s : Int) : Int := zand (zor (zshl a s) (zshr (zshl a s) 12)) 4095
theorem zidx_in (c : Int) : 0 ≤ zidx c ∧ zidx c ≤ 6 := by unfold zidx; (repeat' split) <;> omega
theorem zabs_0 (a : Int) : 0 ≤ zabs a ∧ (a ≤ zabs a) ∧ -a ≤ zabs a ∧ (zabs a = a ∨ zabs a = -a) := by unfold zabs; split <;> omega
set_option maxRecDepth 10000 in
set_option maxHeartbeats 1000000 in
theorem k_X4_pitchClass (p : Int) (hp : -1000000 ≤ p ∧ p ≤ 1000000) : zMet q_X4_pitchClass 1 0 0 [zI p] [] (zD (some (zI (pcl p))) []) := by
  refine z_introF (ls := [(0, _)]) (by decide +kernel) rfl (fun _ _ => rfl) (fun _ _ => Nat.le_of_ble_eq_true rfl) ?_
  refine wa_bipush (pc' := 2) dX4_pitchClass_0 rfl rfl ?_
  refine wa_iload_n (pc' := 3) dX4_pitchClass_2 rfl rfl rfl ?_
  refine wa_imul (pc' := 4) dX4_pitchClass_3 rfl ?_
  refine wa_bipush (pc' := 6) dX4_pitchClass_4 rfl rfl ?_
  refine wa_dS (pc' := 9) (w' := []) (k_J9_floorMod_7cf53 (7 * p) 12 (by omega) (by omega)) ok_J9_floorMod_7cf53 lm_X4_9 dX4_pitchClass_6 rfl [] rfl (by decide) rfl rfl (by decide) (Nat.le_of_ble_eq_true rfl) rfl (by decide) (by decide) rfl rfl rfl ?_
  refine wa_iret dX4_pitchClass_9 rfl (by decide) (by decide) ?_
  exact ⟨rfl, rfl⟩

set_option maxRecDepth 10000 in
set_option maxHeartbeats 1000000 in
theorem k_X4_raised (p s : Int) (hp : -1000000 ≤ p ∧ p ≤ 1000000) (hs : -1000000 ≤ s ∧ s ≤ 1000000) : zMet q_X4_raised 1 0 0 [zI p, zI s] [] (zD (some (zI ((7 * p + s) % 12))) []) := by
  refine z_introF (ls := [(0, _), (1, _)]) (by decide +kernel) rfl (fun _ _ => rfl) (fun _ _ => Nat.le_of_ble_eq_true rfl) ?_
  refine wa_bipush (pc' := 2) dX4_raised_0 rfl rfl ?_
  refine wa_iload_n (pc' := 3) dX4_raised_2 rfl rfl rfl ?_
  refine wa_imul (pc' := 4) dX4_raised_3 rfl ?_
  refine wa_iload_n (pc' := 5) dX4_raised_4 rfl rfl rfl ?_
  refine wa_iadd (pc' := 6) dX4_raised_5 rfl ?_
  refine wa_bipush (pc' := 8) dX4_raised_6 rfl rfl ?_
  refine wa_dS (pc' := 11) (w' := []) (k_J9_floorMod_7cf53 (7 * p + s) 12 (by omega) (by omega)) ok_J9_floorMod_7cf53 lm_X4_9 dX4_raised_8 rfl [] rfl (by decide) rfl rfl (by decide) (Nat.le_of_ble_eq_true rfl) rfl (by decide) (by decide) rfl rfl rfl ?_
  refine wa_iret dX4_raised_11 rfl (by decide) (by decide) ?_
  exact ⟨rfl, rfl⟩

set_option maxRecDepth 10000 in
set_option maxHeartbeats 1000000 in
theorem k_X4_raisedSet (a s : Int) : zMet q_X4_raisedSet 0 0 0 [zI a, zI s] [] (zD (some (zI (zrs a s))) []) := by
  refine z_introF (ls := [(0, _), (1, _)]) (by decide +kernel) rfl (fun _ _ => rfl) (fun _ _ => Nat.le_of_ble_eq_true rfl) ?_
  refine wa_iload_n (pc' := 1) dX4_raisedSet_0 rfl rfl rfl ?_
  refine wa_iload_n (pc' := 2) dX4_raisedSet_1 rfl rfl rfl ?_
  refine wa_ishl (pc' := 3) dX4_raisedSet_2 rfl ?_
  refine wa_istore_n (pc' := 4) (ls' := [(2, _), (0, _), (1, _)]) dX4_raisedSet_3 rfl rfl (by decide) rfl ?_
  refine wa_iload_n (pc' := 5) dX4_raisedSet_4 rfl rfl rfl ?_
  refine wa_iload_n (pc' := 6) dX4_raisedSet_5 rfl rfl rfl ?_
  refine wa_bipush (pc' := 8) dX4_raisedSet_6 rfl rfl ?_
  refine wa_ishr (pc' := 9) dX4_raisedSet_8 rfl ?_
  refine wa_ior (pc' := 10) dX4_raisedSet_9 rfl ?_
  refine wa_sipush (pc' := 13) dX4_raisedSet_10 rfl rfl ?_
  refine wa_iand (pc' := 14) dX4_raisedSet_13 rfl ?_
  refine wa_iret dX4_raisedSet_14 rfl (by decide) (by decide) ?_
  exact ⟨rfl, rfl⟩

set_option maxRecDepth 10000 in
set_option maxHeartbeats 1000000 in
theorem k_X4_placeFrom (lo p : Int) (h : -1000000 ≤ lo ∧ lo ≤ 1000000) (hp : -1000000 ≤ p ∧ p ≤ 1000000) : zMet q_X4_placeFrom 1 0 0 [zI lo, zI p] [] (zD (some (zI (plf lo p))) []) := by
  refine z_introF (ls := [(0, _), (1, _)]) (by decide +kernel) rfl (fun _ _ => rfl) (fun _ _ => Nat.le_of_ble_eq_true rfl) ?_
  refine wa_iload_n (pc' := 1) dX4_placeFrom_0 rfl rfl rfl ?_
  refine wa_bipush (pc' := 3) dX4_placeFrom_1 rfl rfl ?_
  refine wa_iload_n (pc' := 4) dX4_placeFrom_3 rfl rfl rfl ?_
  refine wa_imul (pc' := 5) dX4_placeFrom_4 rfl ?_
  refine wa_iload_n (pc' := 6) dX4_placeFrom_5 rfl rfl rfl ?_
  refine wa_isub (pc' := 7) dX4_placeFrom_6 rfl ?_
  refine wa_bipush (pc' := 9) dX4_placeFrom_7 rfl rfl ?_
  refine wa_dS (pc' := 12) (w' := []) (k_J9_floorMod_7cf53 (7 * p - lo) 12 (by omega) (by omega)) ok_J9_floorMod_7cf53 lm_X4_9 dX4_placeFrom_9 rfl [] rfl (by decide) rfl rfl (by decide) (Nat.le_of_ble_eq_true rfl) rfl (by decide) (by decide) rfl rfl rfl ?_
  refine wa_iadd (pc' := 13) dX4_placeFrom_12 rfl ?_
  refine wa_iret dX4_placeFrom_13 rfl (by decide) (by decide) ?_
  exact ⟨rfl, rfl⟩

set_option maxRecDepth 10000 in
set_option maxHeartbeats 1000000 in
theorem k_X4_natural (c : Int) (hc : zin c) : zMet q_X4_natural 4 0 0 [zI c] [] (zD (some (zI (nat9 c))) []) := by
  refine z_introF (ls := [(0, _)]) (by decide +kernel) rfl (fun _ _ => rfl) (fun _ _ => Nat.le_of_ble_eq_true rfl) ?_
  refine wa_iload_n (pc' := 1) dX4_natural_0 rfl rfl rfl ?_
  refine wa_bipush (pc' := 3) dX4_natural_1 rfl rfl ?_
  refine wa_icmp_lt (tgt := 12) (pc' := 6) dX4_natural_3 (by decide) rfl (by omega) (by omega) (fun c3 => ?_) (fun c3 => ?_)
  · refine wa_bipush (pc' := 14) dX4_natural_12 rfl rfl ?_
    refine wa_iret dX4_natural_14 rfl (by decide) (by decide) ?_
    exact zD_i (by rw [nat9, if_neg (by omega)]) rfl
  · refine wa_iload_n (pc' := 7) dX4_natural_6 rfl rfl rfl ?_
    refine wa_bipush (pc' := 9) dX4_natural_7 rfl rfl ?_
    refine wa_icmp_le (tgt := 15) (pc' := 12) dX4_natural_9 (by decide) rfl (by omega) (by omega) (fun c9 => ?_) (fun c9 => ?_)
    · refine wa_iconst (pc' := 16) dX4_natural_15 rfl ?_
      refine wa_ldcK (pc' := 18) dX4_natural_16 rfl zk_let ?_
      refine wa_iload_n (pc' := 19) dX4_natural_18 rfl rfl rfl ?_
      refine wa_i2c (pc' := 20) dX4_natural_19 rfl (by omega) (by omega) ?_
      refine wa_dK (pc' := 23) (w' := []) (k_J0_indexOf_0f7a4 c (by omega)) ok_J0_indexOf_0f7a4 lm_X4_19 dX4_natural_20 rfl [] rfl (by decide) rfl rfl (zk_str (q := 10) (by decide)) (by decide) (Nat.le_of_ble_eq_true rfl) rfl (by decide) (by decide) rfl rfl rfl ?_
      refine wa_iadd (pc' := 24) dX4_natural_23 rfl ?_
      refine wa_iret dX4_natural_24 rfl (by decide) (by decide) ?_
      exact zD_i (by rw [nat9, if_pos (by omega)]) rfl
    · refine wa_bipush (pc' := 14) dX4_natural_12 rfl rfl ?_
      refine wa_iret dX4_natural_14 rfl (by decide) (by decide) ?_
      exact zD_i (by rw [nat9, if_neg (by omega)]) rfl

def twA (p : Int) : Int := if p < -8 ∨ 13 ≤ p then 1 else 0
set_option maxRecDepth 10000 in
set_option maxHeartbeats 1000000 in
theorem k_X4_hasTwoAccidentals (p : Int) (hp : -1000000 ≤ p ∧ p ≤ 1000000) : zMet q_X4_hasTwoAccidentals 0 0 0 [zI p] [] (zD (some (zI (twA p))) []) := by
  refine z_introF (ls := [(0, _)]) (by decide +kernel) rfl (fun _ _ => rfl) (fun _ _ => Nat.le_of_ble_eq_true rfl) ?_
  refine wa_iload_n (pc' := 1) dX4_hasTwoAccidentals_0 rfl rfl rfl ?_
  refine wa_bipush (pc' := 3) dX4_hasTwoAccidentals_1 rfl rfl ?_
  refine wa_icmp_lt (tgt := 12) (pc' := 6) dX4_hasTwoAccidentals_3 (by decide) rfl (by omega) (by omega) (fun c3 => ?_) (fun c3 => ?_)
  · refine wa_iconst (pc' := 13) dX4_hasTwoAccidentals_12 rfl ?_
    refine wa_goto (pc' := 17) dX4_hasTwoAccidentals_13 (by decide) ?_
    refine wa_zret dX4_hasTwoAccidentals_17 rfl (by decide) (by decide) (by omega) ?_
    first | exact zD_i (by rw [twA, if_pos (by omega)]) rfl | exact zD_i (by rw [twA, if_neg (by omega)]) rfl
  · refine wa_iload_n (pc' := 7) dX4_hasTwoAccidentals_6 rfl rfl rfl ?_
    refine wa_bipush (pc' := 9) dX4_hasTwoAccidentals_7 rfl rfl ?_
    refine wa_icmp_lt (tgt := 16) (pc' := 12) dX4_hasTwoAccidentals_9 (by decide) rfl (by omega) (by omega) (fun c9 => ?_) (fun c9 => ?_)
    · refine wa_iconst (pc' := 17) dX4_hasTwoAccidentals_16 rfl ?_
      refine wa_zret dX4_hasTwoAccidentals_17 rfl (by decide) (by decide) (by omega) ?_
      first | exact zD_i (by rw [twA, if_pos (by omega)]) rfl | exact zD_i (by rw [twA, if_neg (by omega)]) rfl
    · refine wa_iconst (pc' := 13) dX4_hasTwoAccidentals_12 rfl ?_
      refine wa_goto (pc' := 17) dX4_hasTwoAccidentals_13 (by decide) ?_
      refine wa_zret dX4_hasTwoAccidentals_17 rfl (by decide) (by decide) (by omega) ?_
      first | exact zD_i (by rw [twA, if_pos (by omega)]) rfl | exact zD_i (by rw [twA, if_neg (by omega)]) rfl

set_option maxRecDepth 10000 in
set_option maxHeartbeats 1000000 in
theorem k_X4_spelled (p sig si : Int) (hp : 0 ≤ p ∧ p < 12) (hs : -6 ≤ sig ∧ sig ≤ 6) (hi : si = 0 ∨ si = 1) : zMet q_X4_spelled 2 0 0 [zI p, zI sig, zI si] [] (zD (some (zI (spl p sig si))) []) := by
  refine z_introF (ls := [(0, _), (1, _), (2, _)]) (by decide +kernel) rfl (fun _ _ => rfl) (fun _ _ => Nat.le_of_ble_eq_true rfl) ?_
  have hP : -9 ≤ plf (sig - 3) p ∧ plf (sig - 3) p ≤ 14 := by unfold plf; omega
  have hT : twA (plf (sig - 3) p) = 1 ∧ zabs (acc (plf (sig - 3) p)) = 2 ∨ twA (plf (sig - 3) p) = 0 ∧ ¬ zabs (acc (plf (sig - 3) p)) = 2 := by generalize plf (sig - 3) p = g at hP ⊢; unfold twA acc zabs; (repeat' split) <;> omega
  refine wa_iload_n (pc' := 1) dX4_spelled_0 rfl rfl rfl ?_
  refine wa_iconst (pc' := 2) dX4_spelled_1 rfl ?_
  refine wa_isub (pc' := 3) dX4_spelled_2 rfl ?_
  refine wa_iload_n (pc' := 4) dX4_spelled_3 rfl rfl rfl ?_
  refine wa_dS (pc' := 7) (w' := []) (k_X4_placeFrom (sig - 3) p (by omega) (by omega)) ok_X4_placeFrom lm_X4_25 dX4_spelled_4 rfl [] rfl (by decide) rfl rfl (by decide) (Nat.le_of_ble_eq_true rfl) rfl (by decide) (by decide) rfl rfl rfl ?_
  refine wa_istore_n (pc' := 8) (ls' := [(3, _), (0, _), (1, _), (2, _)]) dX4_spelled_7 rfl rfl (by decide) rfl ?_
  refine wa_iload_n (pc' := 9) dX4_spelled_8 rfl rfl rfl ?_
  refine wa_if_eq (tgt := 23) (pc' := 12) dX4_spelled_9 (by decide) rfl (by omega) (fun c9 => ?_) (fun c9 => ?_)
  · refine wa_iconst (pc' := 24) dX4_spelled_23 rfl ?_
    refine wa_istore (pc' := 26) (ls' := [(4, _), (3, _), (0, _), (1, _), (2, _)]) dX4_spelled_24 rfl (by decide) rfl ?_
    refine wa_iload (pc' := 28) dX4_spelled_26 rfl rfl ?_
    refine wa_if_eq (tgt := 39) (pc' := 31) dX4_spelled_28 (by decide) rfl (by omega) (fun c28 => ?_) (fun c28 => ?_)
    · refine wa_iload_n (pc' := 40) dX4_spelled_39 rfl rfl rfl ?_
      refine wa_iret dX4_spelled_40 rfl (by decide) (by decide) ?_
      first | exact absurd c28 (by decide) | exact absurd rfl c28 | exact zD_i (by rw [spl, if_pos ⟨by omega, by omega⟩]) rfl | exact zD_i (by rw [spl, if_neg (fun h => by omega)]) rfl
    · refine wa_iconst (pc' := 32) dX4_spelled_31 rfl ?_
      refine wa_iload_n (pc' := 33) dX4_spelled_32 rfl rfl rfl ?_
      refine wa_dS (pc' := 36) (w' := []) (k_X4_placeFrom (-1) p (by omega) (by omega)) ok_X4_placeFrom lm_X4_25 dX4_spelled_33 rfl [] rfl (by decide) rfl rfl (by decide) (Nat.le_of_ble_eq_true rfl) rfl (by decide) (by decide) rfl rfl rfl ?_
      refine wa_goto (pc' := 40) dX4_spelled_36 (by decide) ?_
      refine wa_iret dX4_spelled_40 rfl (by decide) (by decide) ?_
      first | exact absurd c28 (by decide) | exact absurd rfl c28 | exact zD_i (by rw [spl, if_pos ⟨by omega, by omega⟩]) rfl | exact zD_i (by rw [spl, if_neg (fun h => by omega)]) rfl
  · refine wa_iload_n (pc' := 13) dX4_spelled_12 rfl rfl rfl ?_
    refine wa_dS (pc' := 16) (w' := []) (k_X4_hasTwoAccidentals (plf (sig - 3) p) (by omega)) ok_X4_hasTwoAccidentals lm_X4_28 dX4_spelled_13 rfl [] rfl (by decide) rfl rfl (by decide) (Nat.le_of_ble_eq_true rfl) rfl (by decide) (by decide) rfl rfl rfl ?_
    show Wa _ _ _ _ _ _ _ _ [zI (twA (plf (sig - 3) p))] _ _ _
    refine wa_if_eq (tgt := 23) (pc' := 19) dX4_spelled_16 (by decide) rfl (by omega) (fun c16 => ?_) (fun c16 => ?_)
    · refine wa_iconst (pc' := 24) dX4_spelled_23 rfl ?_
      refine wa_istore (pc' := 26) (ls' := [(4, _), (3, _), (0, _), (1, _), (2, _)]) dX4_spelled_24 rfl (by decide) rfl ?_
      refine wa_iload (pc' := 28) dX4_spelled_26 rfl rfl ?_
      refine wa_if_eq (tgt := 39) (pc' := 31) dX4_spelled_28 (by decide) rfl (by omega) (fun c28 => ?_) (fun c28 => ?_)
      · refine wa_iload_n (pc' := 40) dX4_spelled_39 rfl rfl rfl ?_
        refine wa_iret dX4_spelled_40 rfl (by decide) (by decide) ?_
        first | exact absurd c28 (by decide) | exact absurd rfl c28 | exact zD_i (by rw [spl, if_pos ⟨by omega, by omega⟩]) rfl | exact zD_i (by rw [spl, if_neg (fun h => by omega)]) rfl
      · refine wa_iconst (pc' := 32) dX4_spelled_31 rfl ?_
        refine wa_iload_n (pc' := 33) dX4_spelled_32 rfl rfl rfl ?_
        refine wa_dS (pc' := 36) (w' := []) (k_X4_placeFrom (-1) p (by omega) (by omega)) ok_X4_placeFrom lm_X4_25 dX4_spelled_33 rfl [] rfl (by decide) rfl rfl (by decide) (Nat.le_of_ble_eq_true rfl) rfl (by decide) (by decide) rfl rfl rfl ?_
        refine wa_goto (pc' := 40) dX4_spelled_36 (by decide) ?_
        refine wa_iret dX4_spelled_40 rfl (by decide) (by decide) ?_
        first | exact absurd c28 (by decide) | exact absurd rfl c28 | exact zD_i (by rw [spl, if_pos ⟨by omega, by omega⟩]) rfl | exact zD_i (by rw [spl, if_neg (fun h => by omega)]) rfl
    · refine wa_iconst (pc' := 20) dX4_spelled_19 rfl ?_
      refine wa_goto (pc' := 24) dX4_spelled_20 (by decide) ?_
      refine wa_istore (pc' := 26) (ls' := [(4, _), (3, _), (0, _), (1, _), (2, _)]) dX4_spelled_24 rfl (by decide) rfl ?_
      refine wa_iload (pc' := 28) dX4_spelled_26 rfl rfl ?_
      refine wa_if_eq (tgt := 39) (pc' := 31) dX4_spelled_28 (by decide) rfl (by omega) (fun c28 => ?_) (fun c28 => ?_)
      · refine wa_iload_n (pc' := 40) dX4_spelled_39 rfl rfl rfl ?_
        refine wa_iret dX4_spelled_40 rfl (by decide) (by decide) ?_
        first | exact absurd c28 (by decide) | exact absurd rfl c28 | exact zD_i (by rw [spl, if_pos ⟨by omega, by omega⟩]) rfl | exact zD_i (by rw [spl, if_neg (fun h => by omega)]) rfl
      · refine wa_iconst (pc' := 32) dX4_spelled_31 rfl ?_
        refine wa_iload_n (pc' := 33) dX4_spelled_32 rfl rfl rfl ?_
        refine wa_dS (pc' := 36) (w' := []) (k_X4_placeFrom (-1) p (by omega) (by omega)) ok_X4_placeFrom lm_X4_25 dX4_spelled_33 rfl [] rfl (by decide) rfl rfl (by decide) (Nat.le_of_ble_eq_true rfl) rfl (by decide) (by decide) rfl rfl rfl ?_
        refine wa_goto (pc' := 40) dX4_spelled_36 (by decide) ?_
        refine wa_iret dX4_spelled_40 rfl (by decide) (by decide) ?_
        first | exact absurd c28 (by decide) | exact absurd rfl c28 | exact zD_i (by rw [spl, if_pos ⟨by omega, by omega⟩]) rfl | exact zD_i (by rw [spl, if_neg (fun h => by omega)]) rfl

set_option maxRecDepth 10000 in
set_option maxHeartbeats 1000000 in
theorem l_write (p : Int) (hp : -1000000 ≤ p ∧ p ≤ 1000000) : ∀ (m : Nat) (r : zRw) (k : Int), 0 ≤ r.1 ∧ 0 ≤ k → k + m = zabs (acc p) → r.1 + m ≤ 680 → Wa q_X4_write 4 0 0 2 (zD none (wRow (rL r (List.replicate m (if 0 < acc p then 35 else 98))))) 28 [(3, zI k), (2, zI (acc p)), (0, zI p), (1, zR 0)] [] (wRow r) 0 0 := by
  have hA : -1000000 ≤ acc p ∧ acc p ≤ 1000000 := by unfold acc; omega
  have hZ := zabs_0 (acc p)
  intro m
  induction m with
  | zero =>
    intro r k h0 hm h1
    refine wa_iload_n (pc' := 29) dX4_write_28 rfl rfl rfl ?_
    refine wa_iload_n (pc' := 30) dX4_write_29 rfl rfl rfl ?_
    refine wa_abs (pc' := 33) dX4_write_30 rfl lmm_X4_45 zl_abs1 zl_math zl_abs2 (by omega) (by decide) (Nat.le_of_ble_eq_true rfl) (by decide) (by decide) ?_
    show Wa _ _ _ _ _ _ _ _ [zI (zabs (acc p)), zI k] _ _ _
    refine wa_icmp_ge (tgt := 57) (pc' := 36) dX4_write_33 (by decide) rfl (by omega) (by omega) (fun c33 => ?_) (fun c33 => ?_)
    · refine wa_vret dX4_write_57 rfl (by decide) (by decide) ?_
      exact ⟨rfl, rfl⟩
    · exact absurd c33 (by omega)
  | succ m ih =>
    intro r k h0 hm h1
    have hJ : ∀ c : Int, c = (if 0 < acc p then 35 else 98) → Wa q_X4_write 4 0 0 2 (zD none (wRow (rL r (List.replicate (m + 1) (if 0 < acc p then 35 else 98))))) 48 [(3, zI k), (2, zI (acc p)), (0, zI p), (1, zR 0)] [zI c, zR 0] (wRow r) 0 0 := by
      intro c hc
      subst hc
      refine wa_dV (pc' := 51) (w' := [zO _ [_, _], zA _ _ _]) (k_X7_add r (by omega) (by omega) (if 0 < acc p then 35 else 98) (by split <;> omega)) ok_X7_add lm_X4_36 dX4_write_48 rfl [0, 1] rfl (by decide) rfl rfl rfl rfl rfl (by decide) (Nat.le_of_ble_eq_true rfl) rfl (by decide) (by decide) rfl rfl rfl ?_
      refine wa_iinc (pc' := 54) (ls' := [(3, _), (2, _), (0, _), (1, _)]) dX4_write_51 rfl rfl (by decide) rfl ?_
      refine wa_goto (pc' := 28) dX4_write_54 (by decide) ?_
      exact ih (rA r (if 0 < acc p then 35 else 98)) (k + 1) (by simp only [rA]; omega) (by omega) (by simp only [rA]; omega)
    refine wa_iload_n (pc' := 29) dX4_write_28 rfl rfl rfl ?_
    refine wa_iload_n (pc' := 30) dX4_write_29 rfl rfl rfl ?_
    refine wa_abs (pc' := 33) dX4_write_30 rfl lmm_X4_45 zl_abs1 zl_math zl_abs2 (by omega) (by decide) (Nat.le_of_ble_eq_true rfl) (by decide) (by decide) ?_
    show Wa _ _ _ _ _ _ _ _ [zI (zabs (acc p)), zI k] _ _ _
    refine wa_icmp_ge (tgt := 57) (pc' := 36) dX4_write_33 (by decide) rfl (by omega) (by omega) (fun c33 => ?_) (fun c33 => ?_)
    · exact absurd c33 (by omega)
    · refine wa_aload_n (pc' := 37) dX4_write_36 rfl rfl rfl ?_
      refine wa_iload_n (pc' := 38) dX4_write_37 rfl rfl rfl ?_
      refine wa_if_le (tgt := 46) (pc' := 41) dX4_write_38 (by decide) rfl (by omega) (fun c38 => ?_) (fun c38 => ?_)
      · refine wa_bipush (pc' := 48) dX4_write_46 rfl rfl ?_
        exact hJ _ (by first | rw [if_pos (by omega)] | rw [if_neg (by omega)])
      · refine wa_bipush (pc' := 43) dX4_write_41 rfl rfl ?_
        refine wa_goto (pc' := 48) dX4_write_43 (by decide) ?_
        exact hJ _ (by first | rw [if_pos (by omega)] | rw [if_neg (by omega)])

set_option maxRecDepth 10000 in
set_option maxHeartbeats 1000000 in
theorem k_X4_write (p : Int) (r : zRw) (hp : -1000000 ≤ p ∧ p ≤ 1000000) (h0 : 0 ≤ r.1) (h1 : r.1 + (noteL p).length ≤ 680) : zMet q_X4_write 4 0 0 [zI p, zR 0] (wRow r) (zD none (wRow (rL r (noteL p)))) := by
  refine z_introF (ls := [(0, _), (1, _)]) (by decide +kernel) rfl (fun _ _ => rfl) (fun _ _ => Nat.le_of_ble_eq_true rfl) ?_
  have hZ := zabs_0 (acc p)
  have hl : (noteL p).length = 1 + (zabs (acc p)).toNat := by simp [noteL]; omega
  have hm := Int.emod_nonneg (p - -1) (show (7 : Int) ≠ 0 by decide)
  have hm2 := Int.emod_lt_of_pos (p - -1) (show (0 : Int) < 7 by decide)
  obtain ⟨b1, b2, b3⟩ := zbyte 10 (by decide) ((p - -1) % 7).toNat (by show _ < 7; omega)
  refine wa_aload_n (pc' := 1) dX4_write_0 rfl rfl rfl ?_
  refine wa_ldcK (pc' := 3) dX4_write_1 rfl zk_let ?_
  refine wa_iload_n (pc' := 4) dX4_write_3 rfl rfl rfl ?_
  refine wa_iconst (pc' := 5) dX4_write_4 rfl ?_
  refine wa_isub (pc' := 6) dX4_write_5 rfl ?_
  refine wa_bipush (pc' := 8) dX4_write_6 rfl rfl ?_
  refine wa_dS (pc' := 11) (w' := [_, _]) (k_J9_floorMod_7cf53 (p - -1) 7 (by omega) (by omega)) ok_J9_floorMod_7cf53 lm_X4_9 dX4_write_8 rfl [] rfl (by decide) rfl rfl (by decide) (Nat.le_of_ble_eq_true rfl) rfl (by decide) (by decide) rfl rfl rfl ?_
  refine wa_dK (pc' := 14) (w' := [_, _]) (k_J0_charAt_5068e 10 (by decide) ((p - -1) % 7) (by omega) (by show _ < ((7 : Nat) : Int); omega)) ok_J0_charAt_5068e lm_X4_32 dX4_write_11 rfl [] rfl (by decide) rfl rfl (zk_str (q := 10) (by decide)) (by decide) (Nat.le_of_ble_eq_true rfl) rfl (by decide) (by decide) rfl rfl rfl ?_
  refine wa_dV (pc' := 17) (w' := [zO _ [_, _], zA _ _ _]) (k_X7_add r (by omega) (by omega) ((zBytes.getD 10 []).getD ((p - -1) % 7).toNat 0) (by omega)) ok_X7_add lm_X4_36 dX4_write_14 rfl [0, 1] rfl (by decide) rfl rfl rfl rfl rfl (by decide) (Nat.le_of_ble_eq_true rfl) rfl (by decide) (by decide) rfl rfl rfl ?_
  refine wa_iload_n (pc' := 18) dX4_write_17 rfl rfl rfl ?_
  refine wa_iconst (pc' := 19) dX4_write_18 rfl ?_
  refine wa_isub (pc' := 20) dX4_write_19 rfl ?_
  refine wa_bipush (pc' := 22) dX4_write_20 rfl rfl ?_
  refine wa_dS (pc' := 25) (w' := [_, _]) (k_J9_floorDiv_7cf53 (p - -1) 7 (by omega) (by omega)) ok_J9_floorDiv_7cf53 lm_X4_42 dX4_write_22 rfl [] rfl (by decide) rfl rfl (by decide) (Nat.le_of_ble_eq_true rfl) rfl (by decide) (by decide) rfl rfl rfl ?_
  show Wa _ _ _ _ _ _ _ _ [zI (acc p)] _ _ _
  refine wa_istore_n (pc' := 26) (ls' := [(2, _), (0, _), (1, _)]) dX4_write_25 rfl rfl (by decide) rfl ?_
  refine wa_iconst (pc' := 27) dX4_write_26 rfl ?_
  refine wa_istore_n (pc' := 28) (ls' := [(3, _), (2, _), (0, _), (1, _)]) dX4_write_27 rfl rfl (by decide) rfl ?_
  exact l_write p hp (zabs (acc p)).toNat (rA r ((zBytes.getD 10 []).getD ((p - -1) % 7).toNat 0)) 0 (by simp only [rA]; omega) (by omega) (by simp only [rA]; omega)

set_option maxRecDepth 10000 in
set_option maxHeartbeats 1000000 in
theorem k_X5_count  : zMet q_X5_count 0 0 0 [] [] (zD (some (zI 10)) []) := by
  refine z_introF (ls := []) (by decide +kernel) rfl (fun _ _ => rfl) (fun _ _ => Nat.le_of_ble_eq_true rfl) ?_
  refine wa_kgets (pc' := 3) (k := 10) zk_all lk_X5_68 dX5_count_0 rfl ?_
  refine wa_klen (N := 10) (pc' := 4) zk_allT dX5_count_3 rfl ?_
  refine wa_iret dX5_count_4 rfl (by decide) (by decide) ?_
  exact ⟨rfl, rfl⟩

set_option maxRecDepth 10000 in
set_option maxHeartbeats 1000000 in
theorem k_X5_at (i : Int) (hi : 0 ≤ i ∧ i < 10) : zMet q_X5_at 0 0 0 [zI i] [] (zD (some (zK i.toNat)) []) := by
  refine z_introF (ls := [(0, _)]) (by decide +kernel) rfl (fun _ _ => rfl) (fun _ _ => Nat.le_of_ble_eq_true rfl) ?_
  refine wa_iload_n (pc' := 1) dX5_at_0 rfl rfl rfl ?_
  refine wa_if_lt (tgt := 20) (pc' := 4) dX5_at_1 (by decide) rfl (by omega) (fun c1 => ?_) (fun c1 => ?_)
  · exact absurd c1 (by omega)
  · refine wa_iload_n (pc' := 5) dX5_at_4 rfl rfl rfl ?_
    refine wa_kgets (pc' := 8) (k := 10) zk_all lk_X5_68 dX5_at_5 rfl ?_
    refine wa_klen (N := 10) (pc' := 9) zk_allT dX5_at_8 rfl ?_
    refine wa_icmp_ge (tgt := 20) (pc' := 12) dX5_at_9 (by decide) rfl (by omega) (by omega) (fun c9 => ?_) (fun c9 => ?_)
    · exact absurd c9 (by omega)
    · refine wa_kgets (pc' := 15) (k := 10) zk_all lk_X5_68 dX5_at_12 rfl ?_
      refine wa_iload_n (pc' := 16) dX5_at_15 rfl rfl rfl ?_
      refine wa_kaaload (pc' := 17) dX5_at_16 rfl (by omega) (by omega) ?_
      refine wa_goto (pc' := 23) dX5_at_17 (by decide) ?_
      refine wa_aret dX5_at_23 rfl (by decide) (by decide) ?_
      exact ⟨rfl, rfl⟩

def easyF (q : Nat) (r : Int) : Int := if zand (zshr (zEasy.getD q 0) r) 1 = 1 then 1 else 0
set_option maxRecDepth 10000 in
set_option maxHeartbeats 1000000 in
theorem k_X5_isEasyOn (q : Nat) (hq : q < 10) (r : Int) : zMet q_X5_isEasyOn 0 0 0 [zK q, zI r] [] (zD (some (zI (easyF q r))) []) := by
  refine z_introF (ls := [(0, _), (1, _)]) (by decide +kernel) rfl (fun _ _ => rfl) (fun _ _ => Nat.le_of_ble_eq_true rfl) ?_
  refine wa_aload_n (pc' := 1) dX5_isEasyOn_0 rfl rfl rfl ?_
  refine wa_kget (q := "") (pc' := 4) (v := zI (zEasy.getD q 0)) (zk_easy hq) lk_X5_61 dX5_isEasyOn_1 rfl ?_
  refine wa_iload_n (pc' := 5) dX5_isEasyOn_4 rfl rfl rfl ?_
  refine wa_ishr (pc' := 6) dX5_isEasyOn_5 rfl ?_
  refine wa_iconst (pc' := 7) dX5_isEasyOn_6 rfl ?_
  refine wa_iand (pc' := 8) dX5_isEasyOn_7 rfl ?_
  refine wa_iconst (pc' := 9) dX5_isEasyOn_8 rfl ?_
  refine wa_icmp_ne (tgt := 16) (pc' := 12) dX5_isEasyOn_9 (by decide) rfl (zin_to _) (by omega) (fun c9 => ?_) (fun c9 => ?_)
  · refine wa_iconst (pc' := 17) dX5_isEasyOn_16 rfl ?_
    refine wa_zret dX5_isEasyOn_17 rfl (by decide) (by decide) (by omega) ?_
    first | exact zD_i (by rw [easyF, if_pos (by assumption)]) rfl | exact zD_i (by rw [easyF, if_neg (by assumption)]) rfl
  · refine wa_iconst (pc' := 13) dX5_isEasyOn_12 rfl ?_
    refine wa_goto (pc' := 17) dX5_isEasyOn_13 (by decide) ?_
    refine wa_zret dX5_isEasyOn_17 rfl (by decide) (by decide) (by omega) ?_
    first | exact zD_i (by rw [easyF, if_pos (by assumption)]) rfl | exact zD_i (by rw [easyF, if_neg (by assumption)]) rfl

set_option maxRecDepth 10000 in
set_option maxHeartbeats 1000000 in
theorem k_X5_tonesOn (q : Nat) (hq : q < 10) (r : Int) : zMet q_X5_tonesOn 1 0 0 [zK q, zI r] [] (zD (some (zI (zrs (zTones.getD q 0) r))) []) := by
  refine z_introF (ls := [(0, _), (1, _)]) (by decide +kernel) rfl (fun _ _ => rfl) (fun _ _ => Nat.le_of_ble_eq_true rfl) ?_
  refine wa_aload_n (pc' := 1) dX5_tonesOn_0 rfl rfl rfl ?_
  refine wa_kget (q := "") (pc' := 4) (v := zI (zTones.getD q 0)) (zk_tones hq) lk_X5_57 dX5_tonesOn_1 rfl ?_
  refine wa_iload_n (pc' := 5) dX5_tonesOn_4 rfl rfl rfl ?_
  refine wa_dS (pc' := 8) (w' := []) (k_X4_raisedSet _ _) ok_X4_raisedSet lm_X5_71 dX5_tonesOn_5 rfl [] rfl (by decide) rfl rfl (by decide) (Nat.le_of_ble_eq_true rfl) rfl (by decide) (by decide) rfl rfl rfl ?_
  refine wa_iret dX5_tonesOn_8 rfl (by decide) (by decide) ?_
  exact ⟨rfl, rfl⟩

