/-! History -/
/-- a sheet: letters, starts, chords' fields; lines, chords, signature, minor -/
abbrev zSh : Type := (Int → Int) × (Int → Int) × (Int → Int) × Int × Int × Int × Int
def hQ0 : Nat → Option Nat := fun j => if j = 0 then some 2 else if j = 1 then some 6 else if j = 2 then some 10 else if j = 3 then some 14 else if j = 4 then some 18 else if j = 5 then some 22 else if j = 6 then some 26 else if j = 7 then some 30 else none
abbrev wHi (H : Nat → zSh) (ol ct : Int) : List zE := [zO 0 [zR 1, zI ol, zI ct], zQ 8 hQ0, zO 4 [zR 3, zR 4, zI (H 0).2.2.2.1, zR 5, zI (H 0).2.2.2.2.1, zI (H 0).2.2.2.2.2.1, zI (H 0).2.2.2.2.2.2], zA 1 200 (H 0).1, zA 0 202 (H 0).2.1, zA 0 200 (H 0).2.2.1, zO 4 [zR 7, zR 8, zI (H 1).2.2.2.1, zR 9, zI (H 1).2.2.2.2.1, zI (H 1).2.2.2.2.2.1, zI (H 1).2.2.2.2.2.2], zA 1 200 (H 1).1, zA 0 202 (H 1).2.1, zA 0 200 (H 1).2.2.1, zO 4 [zR 11, zR 12, zI (H 2).2.2.2.1, zR 13, zI (H 2).2.2.2.2.1, zI (H 2).2.2.2.2.2.1, zI (H 2).2.2.2.2.2.2], zA 1 200 (H 2).1, zA 0 202 (H 2).2.1, zA 0 200 (H 2).2.2.1, zO 4 [zR 15, zR 16, zI (H 3).2.2.2.1, zR 17, zI (H 3).2.2.2.2.1, zI (H 3).2.2.2.2.2.1, zI (H 3).2.2.2.2.2.2], zA 1 200 (H 3).1, zA 0 202 (H 3).2.1, zA 0 200 (H 3).2.2.1, zO 4 [zR 19, zR 20, zI (H 4).2.2.2.1, zR 21, zI (H 4).2.2.2.2.1, zI (H 4).2.2.2.2.2.1, zI (H 4).2.2.2.2.2.2], zA 1 200 (H 4).1, zA 0 202 (H 4).2.1, zA 0 200 (H 4).2.2.1, zO 4 [zR 23, zR 24, zI (H 5).2.2.2.1, zR 25, zI (H 5).2.2.2.2.1, zI (H 5).2.2.2.2.2.1, zI (H 5).2.2.2.2.2.2], zA 1 200 (H 5).1, zA 0 202 (H 5).2.1, zA 0 200 (H 5).2.2.1, zO 4 [zR 27, zR 28, zI (H 6).2.2.2.1, zR 29, zI (H 6).2.2.2.2.1, zI (H 6).2.2.2.2.2.1, zI (H 6).2.2.2.2.2.2], zA 1 200 (H 6).1, zA 0 202 (H 6).2.1, zA 0 200 (H 6).2.2.1, zO 4 [zR 31, zR 32, zI (H 7).2.2.2.1, zR 33, zI (H 7).2.2.2.2.1, zI (H 7).2.2.2.2.2.1, zI (H 7).2.2.2.2.2.2], zA 1 200 (H 7).1, zA 0 202 (H 7).2.1, zA 0 200 (H 7).2.2.1]
abbrev wHs (H : Nat → zSh) (ol ct : Int) (s : zSh) : List zE := [zO 0 [zR 1, zI ol, zI ct], zQ 8 hQ0, zO 4 [zR 3, zR 4, zI (H 0).2.2.2.1, zR 5, zI (H 0).2.2.2.2.1, zI (H 0).2.2.2.2.2.1, zI (H 0).2.2.2.2.2.2], zA 1 200 (H 0).1, zA 0 202 (H 0).2.1, zA 0 200 (H 0).2.2.1, zO 4 [zR 7, zR 8, zI (H 1).2.2.2.1, zR 9, zI (H 1).2.2.2.2.1, zI (H 1).2.2.2.2.2.1, zI (H 1).2.2.2.2.2.2], zA 1 200 (H 1).1, zA 0 202 (H 1).2.1, zA 0 200 (H 1).2.2.1, zO 4 [zR 11, zR 12, zI (H 2).2.2.2.1, zR 13, zI (H 2).2.2.2.2.1, zI (H 2).2.2.2.2.2.1, zI (H 2).2.2.2.2.2.2], zA 1 200 (H 2).1, zA 0 202 (H 2).2.1, zA 0 200 (H 2).2.2.1, zO 4 [zR 15, zR 16, zI (H 3).2.2.2.1, zR 17, zI (H 3).2.2.2.2.1, zI (H 3).2.2.2.2.2.1, zI (H 3).2.2.2.2.2.2], zA 1 200 (H 3).1, zA 0 202 (H 3).2.1, zA 0 200 (H 3).2.2.1, zO 4 [zR 19, zR 20, zI (H 4).2.2.2.1, zR 21, zI (H 4).2.2.2.2.1, zI (H 4).2.2.2.2.2.1, zI (H 4).2.2.2.2.2.2], zA 1 200 (H 4).1, zA 0 202 (H 4).2.1, zA 0 200 (H 4).2.2.1, zO 4 [zR 23, zR 24, zI (H 5).2.2.2.1, zR 25, zI (H 5).2.2.2.2.1, zI (H 5).2.2.2.2.2.1, zI (H 5).2.2.2.2.2.2], zA 1 200 (H 5).1, zA 0 202 (H 5).2.1, zA 0 200 (H 5).2.2.1, zO 4 [zR 27, zR 28, zI (H 6).2.2.2.1, zR 29, zI (H 6).2.2.2.2.1, zI (H 6).2.2.2.2.2.1, zI (H 6).2.2.2.2.2.2], zA 1 200 (H 6).1, zA 0 202 (H 6).2.1, zA 0 200 (H 6).2.2.1, zO 4 [zR 31, zR 32, zI (H 7).2.2.2.1, zR 33, zI (H 7).2.2.2.2.1, zI (H 7).2.2.2.2.2.1, zI (H 7).2.2.2.2.2.2], zA 1 200 (H 7).1, zA 0 202 (H 7).2.1, zA 0 200 (H 7).2.2.1, zO 4 [zR 35, zR 36, zI s.2.2.2.1, zR 37, zI s.2.2.2.2.1, zI s.2.2.2.2.2.1, zI s.2.2.2.2.2.2], zA 1 200 s.1, zA 0 202 s.2.1, zA 0 200 s.2.2.1]
def hup (H : Nat → zSh) (j : Nat) (s : zSh) : Nat → zSh := fun i => if i = j then s else H i
def okS (s : zSh) : Prop := (s.2.2.2.2.2.2 = 0 ∨ s.2.2.2.2.2.2 = 1) ∧ ∀ j : Int, 0 ≤ j → j < 200 → 0 ≤ s.1 j ∧ s.1 j < 65536
theorem hq_id : (fun j => (hQ0 j).map fun k => ([0, 1, 2, 3, 4, 5, 6, 7, 8, 9, 10, 11, 12, 13, 14, 15, 16, 17, 18, 19, 20, 21, 22, 23, 24, 25, 26, 27, 28, 29, 30, 31, 32, 33] : List Nat).getD k 0) = hQ0 := by
  funext j
  unfold hQ0
  (repeat' split) <;> rfl
theorem hsub_h (H : Nat → zSh) (ol ct : Int) (s : zSh) : ([0, 1, 2, 3, 4, 5, 6, 7, 8, 9, 10, 11, 12, 13, 14, 15, 16, 17, 18, 19, 20, 21, 22, 23, 24, 25, 26, 27, 28, 29, 30, 31, 32, 33] : List Nat).map (fun i => (wHs H ol ct s)[i]?) = (wHi H ol ct).map fun e => some (zre [0, 1, 2, 3, 4, 5, 6, 7, 8, 9, 10, 11, 12, 13, 14, 15, 16, 17, 18, 19, 20, 21, 22, 23, 24, 25, 26, 27, 28, 29, 30, 31, 32, 33] e) := by
  have e9 : zre [0, 1, 2, 3, 4, 5, 6, 7, 8, 9, 10, 11, 12, 13, 14, 15, 16, 17, 18, 19, 20, 21, 22, 23, 24, 25, 26, 27, 28, 29, 30, 31, 32, 33] (zQ 8 hQ0) = zQ 8 hQ0 := by
    show zQ 8 (fun j => (hQ0 j).map fun k => ([0, 1, 2, 3, 4, 5, 6, 7, 8, 9, 10, 11, 12, 13, 14, 15, 16, 17, 18, 19, 20, 21, 22, 23, 24, 25, 26, 27, 28, 29, 30, 31, 32, 33] : List Nat).getD k 0) = _
    rw [hq_id]
  simp only [wHi, List.map_cons (a := zQ 8 hQ0), List.map_cons, List.map_nil, e9]
  rfl
set_option maxRecDepth 10000 in
set_option maxHeartbeats 1000000 in
theorem k_X1_isEmpty (H : Nat → zSh) (ol ct : Int) (hc : zin ct) : zMet q_X1_isEmpty 0 0 0 [zR 0] (wHi H ol ct) (zD (some (zI (if ct = 0 then 1 else 0))) (wHi H ol ct)) := by
  refine z_introF (ls := [(0, _)]) (by decide +kernel) rfl (fun _ _ => rfl) (fun _ _ => Nat.le_of_ble_eq_true rfl) ?_
  refine wa_aload_n (pc' := 1) dX1_isEmpty_0 rfl rfl rfl ?_
  refine wa_getfield (pc' := 4) (j := 2) zc_X1 lk_X1_18 dX1_isEmpty_1 rfl (by decide) rfl rfl ?_
  refine wa_if_ne (tgt := 11) (pc' := 7) dX1_isEmpty_4 (by decide) rfl (by omega) (fun c4 => ?_) (fun c4 => ?_)
  · refine wa_iconst (pc' := 12) dX1_isEmpty_11 rfl ?_
    refine wa_zret dX1_isEmpty_12 rfl (by decide) (by decide) (by omega) ?_
    exact zD_i (by first | rw [if_pos (by omega)] | rw [if_neg (by omega)]) rfl
  · refine wa_iconst (pc' := 8) dX1_isEmpty_7 rfl ?_
    refine wa_goto (pc' := 12) dX1_isEmpty_8 (by decide) ?_
    refine wa_zret dX1_isEmpty_12 rfl (by decide) (by decide) (by omega) ?_
    exact zD_i (by first | rw [if_pos (by omega)] | rw [if_neg (by omega)]) rfl

set_option maxRecDepth 10000 in
set_option maxHeartbeats 1000000 in
theorem k_X1_stateAt (H : Nat → zSh) (ol ct a : Int) (j : Nat) (hj : (ol + a) % 8 = j) (ho : 0 ≤ ol ∧ ol < 8) (ha : -100 ≤ a ∧ a ≤ 100) : zMet q_X1_stateAt 1 0 0 [zR 0, zI a] (wHi H ol ct) (zD (some (.inr (.inr ((hQ0 j).map .inl)))) (wHi H ol ct)) := by
  refine z_introF (ls := [(0, _), (1, _)]) (by decide +kernel) rfl (fun _ _ => rfl) (fun _ _ => Nat.le_of_ble_eq_true rfl) ?_
  have hM := Int.emod_nonneg (ol + a) (show (8 : Int) ≠ 0 by decide)
  have hM2 := Int.emod_lt_of_pos (ol + a) (show (0 : Int) < 8 by decide)
  refine wa_aload_n (pc' := 1) dX1_stateAt_0 rfl rfl rfl ?_
  refine wa_getfield (pc' := 4) (j := 1) zc_X1 lk_X1_30 dX1_stateAt_1 rfl (by decide) rfl rfl ?_
  refine wa_iload_n (pc' := 5) dX1_stateAt_4 rfl rfl rfl ?_
  refine wa_iadd (pc' := 6) dX1_stateAt_5 rfl ?_
  refine wa_bipush (pc' := 8) dX1_stateAt_6 rfl rfl ?_
  refine wa_dS (pc' := 11) (w' := (_ :: _ :: _ :: _ :: _ :: _ :: _ :: _ :: _ :: _ :: _ :: _ :: _ :: _ :: _ :: _ :: _ :: _ :: _ :: _ :: _ :: _ :: _ :: _ :: _ :: _ :: _ :: _ :: _ :: _ :: _ :: _ :: _ :: _ :: [])) (k_J9_floorMod_7cf53 (ol + a) 8 (by omega) (by omega)) ok_J9_floorMod_7cf53 lm_X1_33 dX1_stateAt_8 rfl [] rfl (by decide) rfl rfl (by decide) (Nat.le_of_ble_eq_true rfl) rfl (by decide) (by decide) rfl rfl rfl ?_
  refine wa_istore_n (pc' := 12) (ls' := [(2, _), (0, _), (1, _)]) dX1_stateAt_11 rfl rfl (by decide) rfl ?_
  refine wa_iload_n (pc' := 13) dX1_stateAt_12 rfl rfl rfl ?_
  refine wa_aload_n (pc' := 14) dX1_stateAt_13 rfl rfl rfl ?_
  refine wa_getfield (pc' := 17) (j := 0) zc_X1 lk_X1_11 dX1_stateAt_14 rfl (by decide) rfl rfl ?_
  refine wa_alenQ (pc' := 18) dX1_stateAt_17 rfl rfl ?_
  refine wa_icmp_ge (tgt := 30) (pc' := 21) dX1_stateAt_18 (by decide) rfl (by omega) (by omega) (fun c18 => ?_) (fun c18 => ?_)
  · exact absurd c18 (by omega)
  · refine wa_aload_n (pc' := 22) dX1_stateAt_21 rfl rfl rfl ?_
    refine wa_getfield (pc' := 25) (j := 0) zc_X1 lk_X1_11 dX1_stateAt_22 rfl (by decide) rfl rfl ?_
    refine wa_iload_n (pc' := 26) dX1_stateAt_25 rfl rfl rfl ?_
    refine wa_aaload (pc' := 27) dX1_stateAt_26 rfl rfl (by omega) (by omega) (by decide) ?_
    refine wa_goto (pc' := 31) dX1_stateAt_27 (by decide) ?_
    refine wa_aret dX1_stateAt_31 rfl (by decide) (by decide) ?_
    exact zD_i (by rw [hj]; rfl) rfl

set_option maxRecDepth 10000 in
set_option maxHeartbeats 1000000 in
theorem k_X1_keep (H : Nat → zSh) (ol ct : Int) (s : zSh) (ho : 0 ≤ ol ∧ ol < 8) (hs : okS s) (hc : 0 ≤ ct ∧ ct ≤ 8) : zMet q_X1_keep 2 0 0 [zR 0, zR 34] (wHs H ol ct s) (zD none (wHs (hup H ((ol + ct) % 8).toNat s) (if ct < 8 then ol else (ol + 1) % 8) (if ct < 8 then ct + 1 else ct) s)) := by
  have hj : (ol + ct) % 8 = (0 : Nat) ∨ (ol + ct) % 8 = (1 : Nat) ∨ (ol + ct) % 8 = (2 : Nat) ∨ (ol + ct) % 8 = (3 : Nat) ∨ (ol + ct) % 8 = (4 : Nat) ∨ (ol + ct) % 8 = (5 : Nat) ∨ (ol + ct) % 8 = (6 : Nat) ∨ (ol + ct) % 8 = (7 : Nat) := by omega
  refine z_introF (ls := [(0, _), (1, _)]) (by decide +kernel) rfl (fun _ _ => rfl) (fun _ _ => Nat.le_of_ble_eq_true rfl) ?_
  rcases hj with hj | hj | hj | hj | hj | hj | hj | hj
  · refine wa_aload_n (pc' := 1) dX1_keep_0 rfl rfl rfl ?_
    refine wa_aload_n (pc' := 2) dX1_keep_1 rfl rfl rfl ?_
    refine wa_getfield (pc' := 5) (j := 2) zc_X1 lk_X1_18 dX1_keep_2 rfl (by decide) rfl rfl ?_
    refine wa_rV (pc' := 8) (k_X1_stateAt H ol ct ct 0 hj (by omega) (by omega)) ok_X1_stateAt lm_X1_22 dX1_keep_5 rfl [0, 1, 2, 3, 4, 5, 6, 7, 8, 9, 10, 11, 12, 13, 14, 15, 16, 17, 18, 19, 20, 21, 22, 23, 24, 25, 26, 27, 28, 29, 30, 31, 32, 33] (hsub_h H ol ct s) (by decide) rfl rfl rfl rfl rfl (by decide) (Nat.le_of_ble_eq_true rfl) rfl (by decide) (by decide) rfl ?_
    show Wa _ _ _ _ _ _ _ _ [zR 2] _ _ _
    refine wa_astore_n (pc' := 9) (ls' := [(2, _), (0, _), (1, _)]) dX1_keep_8 rfl rfl (by decide) rfl ?_
    refine wa_aload_n (pc' := 10) dX1_keep_9 rfl rfl rfl ?_
    refine wa_ifnull (tgt := 18) (pc' := 13) dX1_keep_10 (by decide) rfl (fun c10 => ?_) (fun c10 => ?_)
    · exact nomatch c10
    · refine wa_aload_n (pc' := 14) dX1_keep_13 rfl rfl rfl ?_
      refine wa_aload_n (pc' := 15) dX1_keep_14 rfl rfl rfl ?_
      refine wa_dV (pc' := 18) (w' := (_ :: _ :: zO _ [_, _, _, _, _, _, _] :: zA _ _ _ :: zA _ _ _ :: zA _ _ _ :: _ :: _ :: _ :: _ :: _ :: _ :: _ :: _ :: _ :: _ :: _ :: _ :: _ :: _ :: _ :: _ :: _ :: _ :: _ :: _ :: _ :: _ :: _ :: _ :: _ :: _ :: _ :: _ :: zO _ [_, _, _, _, _, _, _] :: zA _ _ _ :: zA _ _ _ :: zA _ _ _ :: [])) (k_X8_copyFrom _ _ _ _ _ _ _ _ _ _ _ _ _ _ hs.1 hs.2) ok_X8_copyFrom lm_X1_26 dX1_keep_15 rfl [2, 3, 4, 5, 34, 35, 36, 37] rfl (by decide) rfl rfl rfl rfl rfl (by decide) (Nat.le_of_ble_eq_true rfl) rfl (by decide) (by decide) rfl rfl rfl ?_
      refine wa_aload_n (pc' := 19) dX1_keep_18 rfl rfl rfl ?_
      refine wa_getfield (pc' := 22) (j := 2) zc_X1 lk_X1_18 dX1_keep_19 rfl (by decide) rfl rfl ?_
      refine wa_bipush (pc' := 24) dX1_keep_22 rfl rfl ?_
      refine wa_icmp_ge (tgt := 40) (pc' := 27) dX1_keep_24 (by decide) rfl (by omega) (by omega) (fun c24 => ?_) (fun c24 => ?_)
      · refine wa_aload_n (pc' := 41) dX1_keep_40 rfl rfl rfl ?_
        refine wa_aload_n (pc' := 42) dX1_keep_41 rfl rfl rfl ?_
        refine wa_getfield (pc' := 45) (j := 1) zc_X1 lk_X1_30 dX1_keep_42 rfl (by decide) rfl rfl ?_
        refine wa_iconst (pc' := 46) dX1_keep_45 rfl ?_
        refine wa_iadd (pc' := 47) dX1_keep_46 rfl ?_
        refine wa_bipush (pc' := 49) dX1_keep_47 rfl rfl ?_
        refine wa_dS (pc' := 52) (w' := (_ :: _ :: _ :: _ :: _ :: _ :: _ :: _ :: _ :: _ :: _ :: _ :: _ :: _ :: _ :: _ :: _ :: _ :: _ :: _ :: _ :: _ :: _ :: _ :: _ :: _ :: _ :: _ :: _ :: _ :: _ :: _ :: _ :: _ :: _ :: _ :: _ :: _ :: [])) (k_J9_floorMod_7cf53 _ _ (by omega) (by omega)) ok_J9_floorMod_7cf53 lm_X1_33 dX1_keep_49 rfl [] rfl (by decide) rfl rfl (by decide) (Nat.le_of_ble_eq_true rfl) rfl (by decide) (by decide) rfl rfl rfl ?_
        refine wa_putfield (pc' := 55) (j := 1) (w' := (zO _ [_, _, _] :: _ :: _ :: _ :: _ :: _ :: _ :: _ :: _ :: _ :: _ :: _ :: _ :: _ :: _ :: _ :: _ :: _ :: _ :: _ :: _ :: _ :: _ :: _ :: _ :: _ :: _ :: _ :: _ :: _ :: _ :: _ :: _ :: _ :: _ :: _ :: _ :: _ :: [])) zc_X1 lk_X1_30 dX1_keep_52 rfl (by decide) rfl rfl (Nat.le_of_ble_eq_true rfl) True.intro rfl ?_
        refine wa_vret dX1_keep_55 rfl (by decide) (by decide) ?_
        first | exact zD_i rfl (by rw [hj, if_pos (by omega), if_pos (by omega)] <;> rfl) | exact zD_i rfl (by rw [hj, if_neg (by omega), if_neg (by omega)] <;> rfl)
      · refine wa_aload_n (pc' := 28) dX1_keep_27 rfl rfl rfl ?_
        refine wa_dup (pc' := 29) dX1_keep_28 rfl rfl ?_
        refine wa_getfield (pc' := 32) (j := 2) zc_X1 lk_X1_18 dX1_keep_29 rfl (by decide) rfl rfl ?_
        refine wa_iconst (pc' := 33) dX1_keep_32 rfl ?_
        refine wa_iadd (pc' := 34) dX1_keep_33 rfl ?_
        refine wa_putfield (pc' := 37) (j := 2) (w' := (zO _ [_, _, _] :: _ :: _ :: _ :: _ :: _ :: _ :: _ :: _ :: _ :: _ :: _ :: _ :: _ :: _ :: _ :: _ :: _ :: _ :: _ :: _ :: _ :: _ :: _ :: _ :: _ :: _ :: _ :: _ :: _ :: _ :: _ :: _ :: _ :: _ :: _ :: _ :: _ :: [])) zc_X1 lk_X1_18 dX1_keep_34 rfl (by decide) rfl rfl (Nat.le_of_ble_eq_true rfl) True.intro rfl ?_
        refine wa_goto (pc' := 55) dX1_keep_37 (by decide) ?_
        refine wa_vret dX1_keep_55 rfl (by decide) (by decide) ?_
        first | exact zD_i rfl (by rw [hj, if_pos (by omega), if_pos (by omega)] <;> rfl) | exact zD_i rfl (by rw [hj, if_neg (by omega), if_neg (by omega)] <;> rfl)
  · refine wa_aload_n (pc' := 1) dX1_keep_0 rfl rfl rfl ?_
    refine wa_aload_n (pc' := 2) dX1_keep_1 rfl rfl rfl ?_
    refine wa_getfield (pc' := 5) (j := 2) zc_X1 lk_X1_18 dX1_keep_2 rfl (by decide) rfl rfl ?_
    refine wa_rV (pc' := 8) (k_X1_stateAt H ol ct ct 1 hj (by omega) (by omega)) ok_X1_stateAt lm_X1_22 dX1_keep_5 rfl [0, 1, 2, 3, 4, 5, 6, 7, 8, 9, 10, 11, 12, 13, 14, 15, 16, 17, 18, 19, 20, 21, 22, 23, 24, 25, 26, 27, 28, 29, 30, 31, 32, 33] (hsub_h H ol ct s) (by decide) rfl rfl rfl rfl rfl (by decide) (Nat.le_of_ble_eq_true rfl) rfl (by decide) (by decide) rfl ?_
    show Wa _ _ _ _ _ _ _ _ [zR 6] _ _ _
    refine wa_astore_n (pc' := 9) (ls' := [(2, _), (0, _), (1, _)]) dX1_keep_8 rfl rfl (by decide) rfl ?_
    refine wa_aload_n (pc' := 10) dX1_keep_9 rfl rfl rfl ?_
    refine wa_ifnull (tgt := 18) (pc' := 13) dX1_keep_10 (by decide) rfl (fun c10 => ?_) (fun c10 => ?_)
    · exact nomatch c10
    · refine wa_aload_n (pc' := 14) dX1_keep_13 rfl rfl rfl ?_
      refine wa_aload_n (pc' := 15) dX1_keep_14 rfl rfl rfl ?_
      refine wa_dV (pc' := 18) (w' := (_ :: _ :: _ :: _ :: _ :: _ :: zO _ [_, _, _, _, _, _, _] :: zA _ _ _ :: zA _ _ _ :: zA _ _ _ :: _ :: _ :: _ :: _ :: _ :: _ :: _ :: _ :: _ :: _ :: _ :: _ :: _ :: _ :: _ :: _ :: _ :: _ :: _ :: _ :: _ :: _ :: _ :: _ :: zO _ [_, _, _, _, _, _, _] :: zA _ _ _ :: zA _ _ _ :: zA _ _ _ :: [])) (k_X8_copyFrom _ _ _ _ _ _ _ _ _ _ _ _ _ _ hs.1 hs.2) ok_X8_copyFrom lm_X1_26 dX1_keep_15 rfl [6, 7, 8, 9, 34, 35, 36, 37] rfl (by decide) rfl rfl rfl rfl rfl (by decide) (Nat.le_of_ble_eq_true rfl) rfl (by decide) (by decide) rfl rfl rfl ?_
      refine wa_aload_n (pc' := 19) dX1_keep_18 rfl rfl rfl ?_
      refine wa_getfield (pc' := 22) (j := 2) zc_X1 lk_X1_18 dX1_keep_19 rfl (by decide) rfl rfl ?_
      refine wa_bipush (pc' := 24) dX1_keep_22 rfl rfl ?_
      refine wa_icmp_ge (tgt := 40) (pc' := 27) dX1_keep_24 (by decide) rfl (by omega) (by omega) (fun c24 => ?_) (fun c24 => ?_)
      · refine wa_aload_n (pc' := 41) dX1_keep_40 rfl rfl rfl ?_
        refine wa_aload_n (pc' := 42) dX1_keep_41 rfl rfl rfl ?_
        refine wa_getfield (pc' := 45) (j := 1) zc_X1 lk_X1_30 dX1_keep_42 rfl (by decide) rfl rfl ?_
        refine wa_iconst (pc' := 46) dX1_keep_45 rfl ?_
        refine wa_iadd (pc' := 47) dX1_keep_46 rfl ?_
        refine wa_bipush (pc' := 49) dX1_keep_47 rfl rfl ?_
        refine wa_dS (pc' := 52) (w' := (_ :: _ :: _ :: _ :: _ :: _ :: _ :: _ :: _ :: _ :: _ :: _ :: _ :: _ :: _ :: _ :: _ :: _ :: _ :: _ :: _ :: _ :: _ :: _ :: _ :: _ :: _ :: _ :: _ :: _ :: _ :: _ :: _ :: _ :: _ :: _ :: _ :: _ :: [])) (k_J9_floorMod_7cf53 _ _ (by omega) (by omega)) ok_J9_floorMod_7cf53 lm_X1_33 dX1_keep_49 rfl [] rfl (by decide) rfl rfl (by decide) (Nat.le_of_ble_eq_true rfl) rfl (by decide) (by decide) rfl rfl rfl ?_
        refine wa_putfield (pc' := 55) (j := 1) (w' := (zO _ [_, _, _] :: _ :: _ :: _ :: _ :: _ :: _ :: _ :: _ :: _ :: _ :: _ :: _ :: _ :: _ :: _ :: _ :: _ :: _ :: _ :: _ :: _ :: _ :: _ :: _ :: _ :: _ :: _ :: _ :: _ :: _ :: _ :: _ :: _ :: _ :: _ :: _ :: _ :: [])) zc_X1 lk_X1_30 dX1_keep_52 rfl (by decide) rfl rfl (Nat.le_of_ble_eq_true rfl) True.intro rfl ?_
        refine wa_vret dX1_keep_55 rfl (by decide) (by decide) ?_
        first | exact zD_i rfl (by rw [hj, if_pos (by omega), if_pos (by omega)] <;> rfl) | exact zD_i rfl (by rw [hj, if_neg (by omega), if_neg (by omega)] <;> rfl)
      · refine wa_aload_n (pc' := 28) dX1_keep_27 rfl rfl rfl ?_
        refine wa_dup (pc' := 29) dX1_keep_28 rfl rfl ?_
        refine wa_getfield (pc' := 32) (j := 2) zc_X1 lk_X1_18 dX1_keep_29 rfl (by decide) rfl rfl ?_
        refine wa_iconst (pc' := 33) dX1_keep_32 rfl ?_
        refine wa_iadd (pc' := 34) dX1_keep_33 rfl ?_
        refine wa_putfield (pc' := 37) (j := 2) (w' := (zO _ [_, _, _] :: _ :: _ :: _ :: _ :: _ :: _ :: _ :: _ :: _ :: _ :: _ :: _ :: _ :: _ :: _ :: _ :: _ :: _ :: _ :: _ :: _ :: _ :: _ :: _ :: _ :: _ :: _ :: _ :: _ :: _ :: _ :: _ :: _ :: _ :: _ :: _ :: _ :: [])) zc_X1 lk_X1_18 dX1_keep_34 rfl (by decide) rfl rfl (Nat.le_of_ble_eq_true rfl) True.intro rfl ?_
        refine wa_goto (pc' := 55) dX1_keep_37 (by decide) ?_
        refine wa_vret dX1_keep_55 rfl (by decide) (by decide) ?_
        first | exact zD_i rfl (by rw [hj, if_pos (by omega), if_pos (by omega)] <;> rfl) | exact zD_i rfl (by rw [hj, if_neg (by omega), if_neg (by omega)] <;> rfl)
  · refine wa_aload_n (pc' := 1) dX1_keep_0 rfl rfl rfl ?_
    refine wa_aload_n (pc' := 2) dX1_keep_1 rfl rfl rfl ?_
    refine wa_getfield (pc' := 5) (j := 2) zc_X1 lk_X1_18 dX1_keep_2 rfl (by decide) rfl rfl ?_
    refine wa_rV (pc' := 8) (k_X1_stateAt H ol ct ct 2 hj (by omega) (by omega)) ok_X1_stateAt lm_X1_22 dX1_keep_5 rfl [0, 1, 2, 3, 4, 5, 6, 7, 8, 9, 10, 11, 12, 13, 14, 15, 16, 17, 18, 19, 20, 21, 22, 23, 24, 25, 26, 27, 28, 29, 30, 31, 32, 33] (hsub_h H ol ct s) (by decide) rfl rfl rfl rfl rfl (by decide) (Nat.le_of_ble_eq_true rfl) rfl (by decide) (by decide) rfl ?_
    show Wa _ _ _ _ _ _ _ _ [zR 10] _ _ _
    refine wa_astore_n (pc' := 9) (ls' := [(2, _), (0, _), (1, _)]) dX1_keep_8 rfl rfl (by decide) rfl ?_
    refine wa_aload_n (pc' := 10) dX1_keep_9 rfl rfl rfl ?_
    refine wa_ifnull (tgt := 18) (pc' := 13) dX1_keep_10 (by decide) rfl (fun c10 => ?_) (fun c10 => ?_)
    · exact nomatch c10
    · refine wa_aload_n (pc' := 14) dX1_keep_13 rfl rfl rfl ?_
      refine wa_aload_n (pc' := 15) dX1_keep_14 rfl rfl rfl ?_
      refine wa_dV (pc' := 18) (w' := (_ :: _ :: _ :: _ :: _ :: _ :: _ :: _ :: _ :: _ :: zO _ [_, _, _, _, _, _, _] :: zA _ _ _ :: zA _ _ _ :: zA _ _ _ :: _ :: _ :: _ :: _ :: _ :: _ :: _ :: _ :: _ :: _ :: _ :: _ :: _ :: _ :: _ :: _ :: _ :: _ :: _ :: _ :: zO _ [_, _, _, _, _, _, _] :: zA _ _ _ :: zA _ _ _ :: zA _ _ _ :: [])) (k_X8_copyFrom _ _ _ _ _ _ _ _ _ _ _ _ _ _ hs.1 hs.2) ok_X8_copyFrom lm_X1_26 dX1_keep_15 rfl [10, 11, 12, 13, 34, 35, 36, 37] rfl (by decide) rfl rfl rfl rfl rfl (by decide) (Nat.le_of_ble_eq_true rfl) rfl (by decide) (by decide) rfl rfl rfl ?_
      refine wa_aload_n (pc' := 19) dX1_keep_18 rfl rfl rfl ?_
      refine wa_getfield (pc' := 22) (j := 2) zc_X1 lk_X1_18 dX1_keep_19 rfl (by decide) rfl rfl ?_
      refine wa_bipush (pc' := 24) dX1_keep_22 rfl rfl ?_
      refine wa_icmp_ge (tgt := 40) (pc' := 27) dX1_keep_24 (by decide) rfl (by omega) (by omega) (fun c24 => ?_) (fun c24 => ?_)
      · refine wa_aload_n (pc' := 41) dX1_keep_40 rfl rfl rfl ?_
        refine wa_aload_n (pc' := 42) dX1_keep_41 rfl rfl rfl ?_
        refine wa_getfield (pc' := 45) (j := 1) zc_X1 lk_X1_30 dX1_keep_42 rfl (by decide) rfl rfl ?_
        refine wa_iconst (pc' := 46) dX1_keep_45 rfl ?_
        refine wa_iadd (pc' := 47) dX1_keep_46 rfl ?_
        refine wa_bipush (pc' := 49) dX1_keep_47 rfl rfl ?_
        refine wa_dS (pc' := 52) (w' := (_ :: _ :: _ :: _ :: _ :: _ :: _ :: _ :: _ :: _ :: _ :: _ :: _ :: _ :: _ :: _ :: _ :: _ :: _ :: _ :: _ :: _ :: _ :: _ :: _ :: _ :: _ :: _ :: _ :: _ :: _ :: _ :: _ :: _ :: _ :: _ :: _ :: _ :: [])) (k_J9_floorMod_7cf53 _ _ (by omega) (by omega)) ok_J9_floorMod_7cf53 lm_X1_33 dX1_keep_49 rfl [] rfl (by decide) rfl rfl (by decide) (Nat.le_of_ble_eq_true rfl) rfl (by decide) (by decide) rfl rfl rfl ?_
        refine wa_putfield (pc' := 55) (j := 1) (w' := (zO _ [_, _, _] :: _ :: _ :: _ :: _ :: _ :: _ :: _ :: _ :: _ :: _ :: _ :: _ :: _ :: _ :: _ :: _ :: _ :: _ :: _ :: _ :: _ :: _ :: _ :: _ :: _ :: _ :: _ :: _ :: _ :: _ :: _ :: _ :: _ :: _ :: _ :: _ :: _ :: [])) zc_X1 lk_X1_30 dX1_keep_52 rfl (by decide) rfl rfl (Nat.le_of_ble_eq_true rfl) True.intro rfl ?_
        refine wa_vret dX1_keep_55 rfl (by decide) (by decide) ?_
        first | exact zD_i rfl (by rw [hj, if_pos (by omega), if_pos (by omega)] <;> rfl) | exact zD_i rfl (by rw [hj, if_neg (by omega), if_neg (by omega)] <;> rfl)
      · refine wa_aload_n (pc' := 28) dX1_keep_27 rfl rfl rfl ?_
        refine wa_dup (pc' := 29) dX1_keep_28 rfl rfl ?_
        refine wa_getfield (pc' := 32) (j := 2) zc_X1 lk_X1_18 dX1_keep_29 rfl (by decide) rfl rfl ?_
        refine wa_iconst (pc' := 33) dX1_keep_32 rfl ?_
        refine wa_iadd (pc' := 34) dX1_keep_33 rfl ?_
        refine wa_putfield (pc' := 37) (j := 2) (w' := (zO _ [_, _, _] :: _ :: _ :: _ :: _ :: _ :: _ :: _ :: _ :: _ :: _ :: _ :: _ :: _ :: _ :: _ :: _ :: _ :: _ :: _ :: _ :: _ :: _ :: _ :: _ :: _ :: _ :: _ :: _ :: _ :: _ :: _ :: _ :: _ :: _ :: _ :: _ :: _ :: [])) zc_X1 lk_X1_18 dX1_keep_34 rfl (by decide) rfl rfl (Nat.le_of_ble_eq_true rfl) True.intro rfl ?_
        refine wa_goto (pc' := 55) dX1_keep_37 (by decide) ?_
        refine wa_vret dX1_keep_55 rfl (by decide) (by decide) ?_
        first | exact zD_i rfl (by rw [hj, if_pos (by omega), if_pos (by omega)] <;> rfl) | exact zD_i rfl (by rw [hj, if_neg (by omega), if_neg (by omega)] <;> rfl)
  · refine wa_aload_n (pc' := 1) dX1_keep_0 rfl rfl rfl ?_
    refine wa_aload_n (pc' := 2) dX1_keep_1 rfl rfl rfl ?_
    refine wa_getfield (pc' := 5) (j := 2) zc_X1 lk_X1_18 dX1_keep_2 rfl (by decide) rfl rfl ?_
    refine wa_rV (pc' := 8) (k_X1_stateAt H ol ct ct 3 hj (by omega) (by omega)) ok_X1_stateAt lm_X1_22 dX1_keep_5 rfl [0, 1, 2, 3, 4, 5, 6, 7, 8, 9, 10, 11, 12, 13, 14, 15, 16, 17, 18, 19, 20, 21, 22, 23, 24, 25, 26, 27, 28, 29, 30, 31, 32, 33] (hsub_h H ol ct s) (by decide) rfl rfl rfl rfl rfl (by decide) (Nat.le_of_ble_eq_true rfl) rfl (by decide) (by decide) rfl ?_
    show Wa _ _ _ _ _ _ _ _ [zR 14] _ _ _
    refine wa_astore_n (pc' := 9) (ls' := [(2, _), (0, _), (1, _)]) dX1_keep_8 rfl rfl (by decide) rfl ?_
    refine wa_aload_n (pc' := 10) dX1_keep_9 rfl rfl rfl ?_
    refine wa_ifnull (tgt := 18) (pc' := 13) dX1_keep_10 (by decide) rfl (fun c10 => ?_) (fun c10 => ?_)
    · exact nomatch c10
    · refine wa_aload_n (pc' := 14) dX1_keep_13 rfl rfl rfl ?_
      refine wa_aload_n (pc' := 15) dX1_keep_14 rfl rfl rfl ?_
      refine wa_dV (pc' := 18) (w' := (_ :: _ :: _ :: _ :: _ :: _ :: _ :: _ :: _ :: _ :: _ :: _ :: _ :: _ :: zO _ [_, _, _, _, _, _, _] :: zA _ _ _ :: zA _ _ _ :: zA _ _ _ :: _ :: _ :: _ :: _ :: _ :: _ :: _ :: _ :: _ :: _ :: _ :: _ :: _ :: _ :: _ :: _ :: zO _ [_, _, _, _, _, _, _] :: zA _ _ _ :: zA _ _ _ :: zA _ _ _ :: [])) (k_X8_copyFrom _ _ _ _ _ _ _ _ _ _ _ _ _ _ hs.1 hs.2) ok_X8_copyFrom lm_X1_26 dX1_keep_15 rfl [14, 15, 16, 17, 34, 35, 36, 37] rfl (by decide) rfl rfl rfl rfl rfl (by decide) (Nat.le_of_ble_eq_true rfl) rfl (by decide) (by decide) rfl rfl rfl ?_
      refine wa_aload_n (pc' := 19) dX1_keep_18 rfl rfl rfl ?_
      refine wa_getfield (pc' := 22) (j := 2) zc_X1 lk_X1_18 dX1_keep_19 rfl (by decide) rfl rfl ?_
      refine wa_bipush (pc' := 24) dX1_keep_22 rfl rfl ?_
      refine wa_icmp_ge (tgt := 40) (pc' := 27) dX1_keep_24 (by decide) rfl (by omega) (by omega) (fun c24 => ?_) (fun c24 => ?_)
      · refine wa_aload_n (pc' := 41) dX1_keep_40 rfl rfl rfl ?_
        refine wa_aload_n (pc' := 42) dX1_keep_41 rfl rfl rfl ?_
        refine wa_getfield (pc' := 45) (j := 1) zc_X1 lk_X1_30 dX1_keep_42 rfl (by decide) rfl rfl ?_
        refine wa_iconst (pc' := 46) dX1_keep_45 rfl ?_
        refine wa_iadd (pc' := 47) dX1_keep_46 rfl ?_
        refine wa_bipush (pc' := 49) dX1_keep_47 rfl rfl ?_
        refine wa_dS (pc' := 52) (w' := (_ :: _ :: _ :: _ :: _ :: _ :: _ :: _ :: _ :: _ :: _ :: _ :: _ :: _ :: _ :: _ :: _ :: _ :: _ :: _ :: _ :: _ :: _ :: _ :: _ :: _ :: _ :: _ :: _ :: _ :: _ :: _ :: _ :: _ :: _ :: _ :: _ :: _ :: [])) (k_J9_floorMod_7cf53 _ _ (by omega) (by omega)) ok_J9_floorMod_7cf53 lm_X1_33 dX1_keep_49 rfl [] rfl (by decide) rfl rfl (by decide) (Nat.le_of_ble_eq_true rfl) rfl (by decide) (by decide) rfl rfl rfl ?_
        refine wa_putfield (pc' := 55) (j := 1) (w' := (zO _ [_, _, _] :: _ :: _ :: _ :: _ :: _ :: _ :: _ :: _ :: _ :: _ :: _ :: _ :: _ :: _ :: _ :: _ :: _ :: _ :: _ :: _ :: _ :: _ :: _ :: _ :: _ :: _ :: _ :: _ :: _ :: _ :: _ :: _ :: _ :: _ :: _ :: _ :: _ :: [])) zc_X1 lk_X1_30 dX1_keep_52 rfl (by decide) rfl rfl (Nat.le_of_ble_eq_true rfl) True.intro rfl ?_
        refine wa_vret dX1_keep_55 rfl (by decide) (by decide) ?_
        first | exact zD_i rfl (by rw [hj, if_pos (by omega), if_pos (by omega)] <;> rfl) | exact zD_i rfl (by rw [hj, if_neg (by omega), if_neg (by omega)] <;> rfl)
      · refine wa_aload_n (pc' := 28) dX1_keep_27 rfl rfl rfl ?_
        refine wa_dup (pc' := 29) dX1_keep_28 rfl rfl ?_
        refine wa_getfield (pc' := 32) (j := 2) zc_X1 lk_X1_18 dX1_keep_29 rfl (by decide) rfl rfl ?_
        refine wa_iconst (pc' := 33) dX1_keep_32 rfl ?_
        refine wa_iadd (pc' := 34) dX1_keep_33 rfl ?_
        refine wa_putfield (pc' := 37) (j := 2) (w' := (zO _ [_, _, _] :: _ :: _ :: _ :: _ :: _ :: _ :: _ :: _ :: _ :: _ :: _ :: _ :: _ :: _ :: _ :: _ :: _ :: _ :: _ :: _ :: _ :: _ :: _ :: _ :: _ :: _ :: _ :: _ :: _ :: _ :: _ :: _ :: _ :: _ :: _ :: _ :: _ :: [])) zc_X1 lk_X1_18 dX1_keep_34 rfl (by decide) rfl rfl (Nat.le_of_ble_eq_true rfl) True.intro rfl ?_
        refine wa_goto (pc' := 55) dX1_keep_37 (by decide) ?_
        refine wa_vret dX1_keep_55 rfl (by decide) (by decide) ?_
        first | exact zD_i rfl (by rw [hj, if_pos (by omega), if_pos (by omega)] <;> rfl) | exact zD_i rfl (by rw [hj, if_neg (by omega), if_neg (by omega)] <;> rfl)
  · refine wa_aload_n (pc' := 1) dX1_keep_0 rfl rfl rfl ?_
    refine wa_aload_n (pc' := 2) dX1_keep_1 rfl rfl rfl ?_
    refine wa_getfield (pc' := 5) (j := 2) zc_X1 lk_X1_18 dX1_keep_2 rfl (by decide) rfl rfl ?_
    refine wa_rV (pc' := 8) (k_X1_stateAt H ol ct ct 4 hj (by omega) (by omega)) ok_X1_stateAt lm_X1_22 dX1_keep_5 rfl [0, 1, 2, 3, 4, 5, 6, 7, 8, 9, 10, 11, 12, 13, 14, 15, 16, 17, 18, 19, 20, 21, 22, 23, 24, 25, 26, 27, 28, 29, 30, 31, 32, 33] (hsub_h H ol ct s) (by decide) rfl rfl rfl rfl rfl (by decide) (Nat.le_of_ble_eq_true rfl) rfl (by decide) (by decide) rfl ?_
    show Wa _ _ _ _ _ _ _ _ [zR 18] _ _ _
    refine wa_astore_n (pc' := 9) (ls' := [(2, _), (0, _), (1, _)]) dX1_keep_8 rfl rfl (by decide) rfl ?_
    refine wa_aload_n (pc' := 10) dX1_keep_9 rfl rfl rfl ?_
    refine wa_ifnull (tgt := 18) (pc' := 13) dX1_keep_10 (by decide) rfl (fun c10 => ?_) (fun c10 => ?_)
    · exact nomatch c10
    · refine wa_aload_n (pc' := 14) dX1_keep_13 rfl rfl rfl ?_
      refine wa_aload_n (pc' := 15) dX1_keep_14 rfl rfl rfl ?_
      refine wa_dV (pc' := 18) (w' := (_ :: _ :: _ :: _ :: _ :: _ :: _ :: _ :: _ :: _ :: _ :: _ :: _ :: _ :: _ :: _ :: _ :: _ :: zO _ [_, _, _, _, _, _, _] :: zA _ _ _ :: zA _ _ _ :: zA _ _ _ :: _ :: _ :: _ :: _ :: _ :: _ :: _ :: _ :: _ :: _ :: _ :: _ :: zO _ [_, _, _, _, _, _, _] :: zA _ _ _ :: zA _ _ _ :: zA _ _ _ :: [])) (k_X8_copyFrom _ _ _ _ _ _ _ _ _ _ _ _ _ _ hs.1 hs.2) ok_X8_copyFrom lm_X1_26 dX1_keep_15 rfl [18, 19, 20, 21, 34, 35, 36, 37] rfl (by decide) rfl rfl rfl rfl rfl (by decide) (Nat.le_of_ble_eq_true rfl) rfl (by decide) (by decide) rfl rfl rfl ?_
      refine wa_aload_n (pc' := 19) dX1_keep_18 rfl rfl rfl ?_
      refine wa_getfield (pc' := 22) (j := 2) zc_X1 lk_X1_18 dX1_keep_19 rfl (by decide) rfl rfl ?_
      refine wa_bipush (pc' := 24) dX1_keep_22 rfl rfl ?_
      refine wa_icmp_ge (tgt := 40) (pc' := 27) dX1_keep_24 (by decide) rfl (by omega) (by omega) (fun c24 => ?_) (fun c24 => ?_)
      · refine wa_aload_n (pc' := 41) dX1_keep_40 rfl rfl rfl ?_
        refine wa_aload_n (pc' := 42) dX1_keep_41 rfl rfl rfl ?_
        refine wa_getfield (pc' := 45) (j := 1) zc_X1 lk_X1_30 dX1_keep_42 rfl (by decide) rfl rfl ?_
        refine wa_iconst (pc' := 46) dX1_keep_45 rfl ?_
        refine wa_iadd (pc' := 47) dX1_keep_46 rfl ?_
        refine wa_bipush (pc' := 49) dX1_keep_47 rfl rfl ?_
        refine wa_dS (pc' := 52) (w' := (_ :: _ :: _ :: _ :: _ :: _ :: _ :: _ :: _ :: _ :: _ :: _ :: _ :: _ :: _ :: _ :: _ :: _ :: _ :: _ :: _ :: _ :: _ :: _ :: _ :: _ :: _ :: _ :: _ :: _ :: _ :: _ :: _ :: _ :: _ :: _ :: _ :: _ :: [])) (k_J9_floorMod_7cf53 _ _ (by omega) (by omega)) ok_J9_floorMod_7cf53 lm_X1_33 dX1_keep_49 rfl [] rfl (by decide) rfl rfl (by decide) (Nat.le_of_ble_eq_true rfl) rfl (by decide) (by decide) rfl rfl rfl ?_
        refine wa_putfield (pc' := 55) (j := 1) (w' := (zO _ [_, _, _] :: _ :: _ :: _ :: _ :: _ :: _ :: _ :: _ :: _ :: _ :: _ :: _ :: _ :: _ :: _ :: _ :: _ :: _ :: _ :: _ :: _ :: _ :: _ :: _ :: _ :: _ :: _ :: _ :: _ :: _ :: _ :: _ :: _ :: _ :: _ :: _ :: _ :: [])) zc_X1 lk_X1_30 dX1_keep_52 rfl (by decide) rfl rfl (Nat.le_of_ble_eq_true rfl) True.intro rfl ?_
        refine wa_vret dX1_keep_55 rfl (by decide) (by decide) ?_
        first | exact zD_i rfl (by rw [hj, if_pos (by omega), if_pos (by omega)] <;> rfl) | exact zD_i rfl (by rw [hj, if_neg (by omega), if_neg (by omega)] <;> rfl)
      · refine wa_aload_n (pc' := 28) dX1_keep_27 rfl rfl rfl ?_
        refine wa_dup (pc' := 29) dX1_keep_28 rfl rfl ?_
        refine wa_getfield (pc' := 32) (j := 2) zc_X1 lk_X1_18 dX1_keep_29 rfl (by decide) rfl rfl ?_
        refine wa_iconst (pc' := 33) dX1_keep_32 rfl ?_
        refine wa_iadd (pc' := 34) dX1_keep_33 rfl ?_
        refine wa_putfield (pc' := 37) (j := 2) (w' := (zO _ [_, _, _] :: _ :: _ :: _ :: _ :: _ :: _ :: _ :: _ :: _ :: _ :: _ :: _ :: _ :: _ :: _ :: _ :: _ :: _ :: _ :: _ :: _ :: _ :: _ :: _ :: _ :: _ :: _ :: _ :: _ :: _ :: _ :: _ :: _ :: _ :: _ :: _ :: _ :: [])) zc_X1 lk_X1_18 dX1_keep_34 rfl (by decide) rfl rfl (Nat.le_of_ble_eq_true rfl) True.intro rfl ?_
        refine wa_goto (pc' := 55) dX1_keep_37 (by decide) ?_
        refine wa_vret dX1_keep_55 rfl (by decide) (by decide) ?_
        first | exact zD_i rfl (by rw [hj, if_pos (by omega), if_pos (by omega)] <;> rfl) | exact zD_i rfl (by rw [hj, if_neg (by omega), if_neg (by omega)] <;> rfl)
  · refine wa_aload_n (pc' := 1) dX1_keep_0 rfl rfl rfl ?_
    refine wa_aload_n (pc' := 2) dX1_keep_1 rfl rfl rfl ?_
    refine wa_getfield (pc' := 5) (j := 2) zc_X1 lk_X1_18 dX1_keep_2 rfl (by decide) rfl rfl ?_
    refine wa_rV (pc' := 8) (k_X1_stateAt H ol ct ct 5 hj (by omega) (by omega)) ok_X1_stateAt lm_X1_22 dX1_keep_5 rfl [0, 1, 2, 3, 4, 5, 6, 7, 8, 9, 10, 11, 12, 13, 14, 15, 16, 17, 18, 19, 20, 21, 22, 23, 24, 25, 26, 27, 28, 29, 30, 31, 32, 33] (hsub_h H ol ct s) (by decide) rfl rfl rfl rfl rfl (by decide) (Nat.le_of_ble_eq_true rfl) rfl (by decide) (by decide) rfl ?_
    show Wa _ _ _ _ _ _ _ _ [zR 22] _ _ _
    refine wa_astore_n (pc' := 9) (ls' := [(2, _), (0, _), (1, _)]) dX1_keep_8 rfl rfl (by decide) rfl ?_
    refine wa_aload_n (pc' := 10) dX1_keep_9 rfl rfl rfl ?_
    refine wa_ifnull (tgt := 18) (pc' := 13) dX1_keep_10 (by decide) rfl (fun c10 => ?_) (fun c10 => ?_)
    · exact nomatch c10
    · refine wa_aload_n (pc' := 14) dX1_keep_13 rfl rfl rfl ?_
      refine wa_aload_n (pc' := 15) dX1_keep_14 rfl rfl rfl ?_
      refine wa_dV (pc' := 18) (w' := (_ :: _ :: _ :: _ :: _ :: _ :: _ :: _ :: _ :: _ :: _ :: _ :: _ :: _ :: _ :: _ :: _ :: _ :: _ :: _ :: _ :: _ :: zO _ [_, _, _, _, _, _, _] :: zA _ _ _ :: zA _ _ _ :: zA _ _ _ :: _ :: _ :: _ :: _ :: _ :: _ :: _ :: _ :: zO _ [_, _, _, _, _, _, _] :: zA _ _ _ :: zA _ _ _ :: zA _ _ _ :: [])) (k_X8_copyFrom _ _ _ _ _ _ _ _ _ _ _ _ _ _ hs.1 hs.2) ok_X8_copyFrom lm_X1_26 dX1_keep_15 rfl [22, 23, 24, 25, 34, 35, 36, 37] rfl (by decide) rfl rfl rfl rfl rfl (by decide) (Nat.le_of_ble_eq_true rfl) rfl (by decide) (by decide) rfl rfl rfl ?_
      refine wa_aload_n (pc' := 19) dX1_keep_18 rfl rfl rfl ?_
      refine wa_getfield (pc' := 22) (j := 2) zc_X1 lk_X1_18 dX1_keep_19 rfl (by decide) rfl rfl ?_
      refine wa_bipush (pc' := 24) dX1_keep_22 rfl rfl ?_
      refine wa_icmp_ge (tgt := 40) (pc' := 27) dX1_keep_24 (by decide) rfl (by omega) (by omega) (fun c24 => ?_) (fun c24 => ?_)
      · refine wa_aload_n (pc' := 41) dX1_keep_40 rfl rfl rfl ?_
        refine wa_aload_n (pc' := 42) dX1_keep_41 rfl rfl rfl ?_
        refine wa_getfield (pc' := 45) (j := 1) zc_X1 lk_X1_30 dX1_keep_42 rfl (by decide) rfl rfl ?_
        refine wa_iconst (pc' := 46) dX1_keep_45 rfl ?_
        refine wa_iadd (pc' := 47) dX1_keep_46 rfl ?_
        refine wa_bipush (pc' := 49) dX1_keep_47 rfl rfl ?_
        refine wa_dS (pc' := 52) (w' := (_ :: _ :: _ :: _ :: _ :: _ :: _ :: _ :: _ :: _ :: _ :: _ :: _ :: _ :: _ :: _ :: _ :: _ :: _ :: _ :: _ :: _ :: _ :: _ :: _ :: _ :: _ :: _ :: _ :: _ :: _ :: _ :: _ :: _ :: _ :: _ :: _ :: _ :: [])) (k_J9_floorMod_7cf53 _ _ (by omega) (by omega)) ok_J9_floorMod_7cf53 lm_X1_33 dX1_keep_49 rfl [] rfl (by decide) rfl rfl (by decide) (Nat.le_of_ble_eq_true rfl) rfl (by decide) (by decide) rfl rfl rfl ?_
        refine wa_putfield (pc' := 55) (j := 1) (w' := (zO _ [_, _, _] :: _ :: _ :: _ :: _ :: _ :: _ :: _ :: _ :: _ :: _ :: _ :: _ :: _ :: _ :: _ :: _ :: _ :: _ :: _ :: _ :: _ :: _ :: _ :: _ :: _ :: _ :: _ :: _ :: _ :: _ :: _ :: _ :: _ :: _ :: _ :: _ :: _ :: [])) zc_X1 lk_X1_30 dX1_keep_52 rfl (by decide) rfl rfl (Nat.le_of_ble_eq_true rfl) True.intro rfl ?_
        refine wa_vret dX1_keep_55 rfl (by decide) (by decide) ?_
        first | exact zD_i rfl (by rw [hj, if_pos (by omega), if_pos (by omega)] <;> rfl) | exact zD_i rfl (by rw [hj, if_neg (by omega), if_neg (by omega)] <;> rfl)
      · refine wa_aload_n (pc' := 28) dX1_keep_27 rfl rfl rfl ?_
        refine wa_dup (pc' := 29) dX1_keep_28 rfl rfl ?_
        refine wa_getfield (pc' := 32) (j := 2) zc_X1 lk_X1_18 dX1_keep_29 rfl (by decide) rfl rfl ?_
        refine wa_iconst (pc' := 33) dX1_keep_32 rfl ?_
        refine wa_iadd (pc' := 34) dX1_keep_33 rfl ?_
        refine wa_putfield (pc' := 37) (j := 2) (w' := (zO _ [_, _, _] :: _ :: _ :: _ :: _ :: _ :: _ :: _ :: _ :: _ :: _ :: _ :: _ :: _ :: _ :: _ :: _ :: _ :: _ :: _ :: _ :: _ :: _ :: _ :: _ :: _ :: _ :: _ :: _ :: _ :: _ :: _ :: _ :: _ :: _ :: _ :: _ :: _ :: [])) zc_X1 lk_X1_18 dX1_keep_34 rfl (by decide) rfl rfl (Nat.le_of_ble_eq_true rfl) True.intro rfl ?_
        refine wa_goto (pc' := 55) dX1_keep_37 (by decide) ?_
        refine wa_vret dX1_keep_55 rfl (by decide) (by decide) ?_
        first | exact zD_i rfl (by rw [hj, if_pos (by omega), if_pos (by omega)] <;> rfl) | exact zD_i rfl (by rw [hj, if_neg (by omega), if_neg (by omega)] <;> rfl)
  · refine wa_aload_n (pc' := 1) dX1_keep_0 rfl rfl rfl ?_
    refine wa_aload_n (pc' := 2) dX1_keep_1 rfl rfl rfl ?_
    refine wa_getfield (pc' := 5) (j := 2) zc_X1 lk_X1_18 dX1_keep_2 rfl (by decide) rfl rfl ?_
    refine wa_rV (pc' := 8) (k_X1_stateAt H ol ct ct 6 hj (by omega) (by omega)) ok_X1_stateAt lm_X1_22 dX1_keep_5 rfl [0, 1, 2, 3, 4, 5, 6, 7, 8, 9, 10, 11, 12, 13, 14, 15, 16, 17, 18, 19, 20, 21, 22, 23, 24, 25, 26, 27, 28, 29, 30, 31, 32, 33] (hsub_h H ol ct s) (by decide) rfl rfl rfl rfl rfl (by decide) (Nat.le_of_ble_eq_true rfl) rfl (by decide) (by decide) rfl ?_
    show Wa _ _ _ _ _ _ _ _ [zR 26] _ _ _
    refine wa_astore_n (pc' := 9) (ls' := [(2, _), (0, _), (1, _)]) dX1_keep_8 rfl rfl (by decide) rfl ?_
    refine wa_aload_n (pc' := 10) dX1_keep_9 rfl rfl rfl ?_
    refine wa_ifnull (tgt := 18) (pc' := 13) dX1_keep_10 (by decide) rfl (fun c10 => ?_) (fun c10 => ?_)
    · exact nomatch c10
    · refine wa_aload_n (pc' := 14) dX1_keep_13 rfl rfl rfl ?_
      refine wa_aload_n (pc' := 15) dX1_keep_14 rfl rfl rfl ?_
      refine wa_dV (pc' := 18) (w' := (_ :: _ :: _ :: _ :: _ :: _ :: _ :: _ :: _ :: _ :: _ :: _ :: _ :: _ :: _ :: _ :: _ :: _ :: _ :: _ :: _ :: _ :: _ :: _ :: _ :: _ :: zO _ [_, _, _, _, _, _, _] :: zA _ _ _ :: zA _ _ _ :: zA _ _ _ :: _ :: _ :: _ :: _ :: zO _ [_, _, _, _, _, _, _] :: zA _ _ _ :: zA _ _ _ :: zA _ _ _ :: [])) (k_X8_copyFrom _ _ _ _ _ _ _ _ _ _ _ _ _ _ hs.1 hs.2) ok_X8_copyFrom lm_X1_26 dX1_keep_15 rfl [26, 27, 28, 29, 34, 35, 36, 37] rfl (by decide) rfl rfl rfl rfl rfl (by decide) (Nat.le_of_ble_eq_true rfl) rfl (by decide) (by decide) rfl rfl rfl ?_
      refine wa_aload_n (pc' := 19) dX1_keep_18 rfl rfl rfl ?_
      refine wa_getfield (pc' := 22) (j := 2) zc_X1 lk_X1_18 dX1_keep_19 rfl (by decide) rfl rfl ?_
      refine wa_bipush (pc' := 24) dX1_keep_22 rfl rfl ?_
      refine wa_icmp_ge (tgt := 40) (pc' := 27) dX1_keep_24 (by decide) rfl (by omega) (by omega) (fun c24 => ?_) (fun c24 => ?_)
      · refine wa_aload_n (pc' := 41) dX1_keep_40 rfl rfl rfl ?_
        refine wa_aload_n (pc' := 42) dX1_keep_41 rfl rfl rfl ?_
        refine wa_getfield (pc' := 45) (j := 1) zc_X1 lk_X1_30 dX1_keep_42 rfl (by decide) rfl rfl ?_
        refine wa_iconst (pc' := 46) dX1_keep_45 rfl ?_
        refine wa_iadd (pc' := 47) dX1_keep_46 rfl ?_
        refine wa_bipush (pc' := 49) dX1_keep_47 rfl rfl ?_
        refine wa_dS (pc' := 52) (w' := (_ :: _ :: _ :: _ :: _ :: _ :: _ :: _ :: _ :: _ :: _ :: _ :: _ :: _ :: _ :: _ :: _ :: _ :: _ :: _ :: _ :: _ :: _ :: _ :: _ :: _ :: _ :: _ :: _ :: _ :: _ :: _ :: _ :: _ :: _ :: _ :: _ :: _ :: [])) (k_J9_floorMod_7cf53 _ _ (by omega) (by omega)) ok_J9_floorMod_7cf53 lm_X1_33 dX1_keep_49 rfl [] rfl (by decide) rfl rfl (by decide) (Nat.le_of_ble_eq_true rfl) rfl (by decide) (by decide) rfl rfl rfl ?_
        refine wa_putfield (pc' := 55) (j := 1) (w' := (zO _ [_, _, _] :: _ :: _ :: _ :: _ :: _ :: _ :: _ :: _ :: _ :: _ :: _ :: _ :: _ :: _ :: _ :: _ :: _ :: _ :: _ :: _ :: _ :: _ :: _ :: _ :: _ :: _ :: _ :: _ :: _ :: _ :: _ :: _ :: _ :: _ :: _ :: _ :: _ :: [])) zc_X1 lk_X1_30 dX1_keep_52 rfl (by decide) rfl rfl (Nat.le_of_ble_eq_true rfl) True.intro rfl ?_
        refine wa_vret dX1_keep_55 rfl (by decide) (by decide) ?_
        first | exact zD_i rfl (by rw [hj, if_pos (by omega), if_pos (by omega)] <;> rfl) | exact zD_i rfl (by rw [hj, if_neg (by omega), if_neg (by omega)] <;> rfl)
      · refine wa_aload_n (pc' := 28) dX1_keep_27 rfl rfl rfl ?_
        refine wa_dup (pc' := 29) dX1_keep_28 rfl rfl ?_
        refine wa_getfield (pc' := 32) (j := 2) zc_X1 lk_X1_18 dX1_keep_29 rfl (by decide) rfl rfl ?_
        refine wa_iconst (pc' := 33) dX1_keep_32 rfl ?_
        refine wa_iadd (pc' := 34) dX1_keep_33 rfl ?_
        refine wa_putfield (pc' := 37) (j := 2) (w' := (zO _ [_, _, _] :: _ :: _ :: _ :: _ :: _ :: _ :: _ :: _ :: _ :: _ :: _ :: _ :: _ :: _ :: _ :: _ :: _ :: _ :: _ :: _ :: _ :: _ :: _ :: _ :: _ :: _ :: _ :: _ :: _ :: _ :: _ :: _ :: _ :: _ :: _ :: _ :: _ :: [])) zc_X1 lk_X1_18 dX1_keep_34 rfl (by decide) rfl rfl (Nat.le_of_ble_eq_true rfl) True.intro rfl ?_
        refine wa_goto (pc' := 55) dX1_keep_37 (by decide) ?_
        refine wa_vret dX1_keep_55 rfl (by decide) (by decide) ?_
        first | exact zD_i rfl (by rw [hj, if_pos (by omega), if_pos (by omega)] <;> rfl) | exact zD_i rfl (by rw [hj, if_neg (by omega), if_neg (by omega)] <;> rfl)
  · refine wa_aload_n (pc' := 1) dX1_keep_0 rfl rfl rfl ?_
    refine wa_aload_n (pc' := 2) dX1_keep_1 rfl rfl rfl ?_
    refine wa_getfield (pc' := 5) (j := 2) zc_X1 lk_X1_18 dX1_keep_2 rfl (by decide) rfl rfl ?_
    refine wa_rV (pc' := 8) (k_X1_stateAt H ol ct ct 7 hj (by omega) (by omega)) ok_X1_stateAt lm_X1_22 dX1_keep_5 rfl [0, 1, 2, 3, 4, 5, 6, 7, 8, 9, 10, 11, 12, 13, 14, 15, 16, 17, 18, 19, 20, 21, 22, 23, 24, 25, 26, 27, 28, 29, 30, 31, 32, 33] (hsub_h H ol ct s) (by decide) rfl rfl rfl rfl rfl (by decide) (Nat.le_of_ble_eq_true rfl) rfl (by decide) (by decide) rfl ?_
    show Wa _ _ _ _ _ _ _ _ [zR 30] _ _ _
    refine wa_astore_n (pc' := 9) (ls' := [(2, _), (0, _), (1, _)]) dX1_keep_8 rfl rfl (by decide) rfl ?_
    refine wa_aload_n (pc' := 10) dX1_keep_9 rfl rfl rfl ?_
    refine wa_ifnull (tgt := 18) (pc' := 13) dX1_keep_10 (by decide) rfl (fun c10 => ?_) (fun c10 => ?_)
    · exact nomatch c10
    · refine wa_aload_n (pc' := 14) dX1_keep_13 rfl rfl rfl ?_
      refine wa_aload_n (pc' := 15) dX1_keep_14 rfl rfl rfl ?_
      refine wa_dV (pc' := 18) (w' := (_ :: _ :: _ :: _ :: _ :: _ :: _ :: _ :: _ :: _ :: _ :: _ :: _ :: _ :: _ :: _ :: _ :: _ :: _ :: _ :: _ :: _ :: _ :: _ :: _ :: _ :: _ :: _ :: _ :: _ :: zO _ [_, _, _, _, _, _, _] :: zA _ _ _ :: zA _ _ _ :: zA _ _ _ :: zO _ [_, _, _, _, _, _, _] :: zA _ _ _ :: zA _ _ _ :: zA _ _ _ :: [])) (k_X8_copyFrom _ _ _ _ _ _ _ _ _ _ _ _ _ _ hs.1 hs.2) ok_X8_copyFrom lm_X1_26 dX1_keep_15 rfl [30, 31, 32, 33, 34, 35, 36, 37] rfl (by decide) rfl rfl rfl rfl rfl (by decide) (Nat.le_of_ble_eq_true rfl) rfl (by decide) (by decide) rfl rfl rfl ?_
      refine wa_aload_n (pc' := 19) dX1_keep_18 rfl rfl rfl ?_
      refine wa_getfield (pc' := 22) (j := 2) zc_X1 lk_X1_18 dX1_keep_19 rfl (by decide) rfl rfl ?_
      refine wa_bipush (pc' := 24) dX1_keep_22 rfl rfl ?_
      refine wa_icmp_ge (tgt := 40) (pc' := 27) dX1_keep_24 (by decide) rfl (by omega) (by omega) (fun c24 => ?_) (fun c24 => ?_)
      · refine wa_aload_n (pc' := 41) dX1_keep_40 rfl rfl rfl ?_
        refine wa_aload_n (pc' := 42) dX1_keep_41 rfl rfl rfl ?_
        refine wa_getfield (pc' := 45) (j := 1) zc_X1 lk_X1_30 dX1_keep_42 rfl (by decide) rfl rfl ?_
        refine wa_iconst (pc' := 46) dX1_keep_45 rfl ?_
        refine wa_iadd (pc' := 47) dX1_keep_46 rfl ?_
        refine wa_bipush (pc' := 49) dX1_keep_47 rfl rfl ?_
        refine wa_dS (pc' := 52) (w' := (_ :: _ :: _ :: _ :: _ :: _ :: _ :: _ :: _ :: _ :: _ :: _ :: _ :: _ :: _ :: _ :: _ :: _ :: _ :: _ :: _ :: _ :: _ :: _ :: _ :: _ :: _ :: _ :: _ :: _ :: _ :: _ :: _ :: _ :: _ :: _ :: _ :: _ :: [])) (k_J9_floorMod_7cf53 _ _ (by omega) (by omega)) ok_J9_floorMod_7cf53 lm_X1_33 dX1_keep_49 rfl [] rfl (by decide) rfl rfl (by decide) (Nat.le_of_ble_eq_true rfl) rfl (by decide) (by decide) rfl rfl rfl ?_
        refine wa_putfield (pc' := 55) (j := 1) (w' := (zO _ [_, _, _] :: _ :: _ :: _ :: _ :: _ :: _ :: _ :: _ :: _ :: _ :: _ :: _ :: _ :: _ :: _ :: _ :: _ :: _ :: _ :: _ :: _ :: _ :: _ :: _ :: _ :: _ :: _ :: _ :: _ :: _ :: _ :: _ :: _ :: _ :: _ :: _ :: _ :: [])) zc_X1 lk_X1_30 dX1_keep_52 rfl (by decide) rfl rfl (Nat.le_of_ble_eq_true rfl) True.intro rfl ?_
        refine wa_vret dX1_keep_55 rfl (by decide) (by decide) ?_
        first | exact zD_i rfl (by rw [hj, if_pos (by omega), if_pos (by omega)] <;> rfl) | exact zD_i rfl (by rw [hj, if_neg (by omega), if_neg (by omega)] <;> rfl)
      · refine wa_aload_n (pc' := 28) dX1_keep_27 rfl rfl rfl ?_
        refine wa_dup (pc' := 29) dX1_keep_28 rfl rfl ?_
        refine wa_getfield (pc' := 32) (j := 2) zc_X1 lk_X1_18 dX1_keep_29 rfl (by decide) rfl rfl ?_
        refine wa_iconst (pc' := 33) dX1_keep_32 rfl ?_
        refine wa_iadd (pc' := 34) dX1_keep_33 rfl ?_
        refine wa_putfield (pc' := 37) (j := 2) (w' := (zO _ [_, _, _] :: _ :: _ :: _ :: _ :: _ :: _ :: _ :: _ :: _ :: _ :: _ :: _ :: _ :: _ :: _ :: _ :: _ :: _ :: _ :: _ :: _ :: _ :: _ :: _ :: _ :: _ :: _ :: _ :: _ :: _ :: _ :: _ :: _ :: _ :: _ :: _ :: _ :: [])) zc_X1 lk_X1_18 dX1_keep_34 rfl (by decide) rfl rfl (Nat.le_of_ble_eq_true rfl) True.intro rfl ?_
        refine wa_goto (pc' := 55) dX1_keep_37 (by decide) ?_
        refine wa_vret dX1_keep_55 rfl (by decide) (by decide) ?_
        first | exact zD_i rfl (by rw [hj, if_pos (by omega), if_pos (by omega)] <;> rfl) | exact zD_i rfl (by rw [hj, if_neg (by omega), if_neg (by omega)] <;> rfl)

set_option maxRecDepth 10000 in
set_option maxHeartbeats 1000000 in
theorem k_X1_restore (H : Nat → zSh) (ol ct : Int) (s : zSh) (ho : 0 ≤ ol ∧ ol < 8) (hc : 1 ≤ ct ∧ ct ≤ 8) (hH : ∀ i : Nat, i < 8 → okS (H i)) : zMet q_X1_restore 2 0 0 [zR 0, zR 34] (wHs H ol ct s) (zD (some (zI (ct - 1))) (wHs H ol (ct - 1) (H ((ol + (ct - 1)) % 8).toNat))) := by
  have hj : (ol + (ct - 1)) % 8 = (0 : Nat) ∨ (ol + (ct - 1)) % 8 = (1 : Nat) ∨ (ol + (ct - 1)) % 8 = (2 : Nat) ∨ (ol + (ct - 1)) % 8 = (3 : Nat) ∨ (ol + (ct - 1)) % 8 = (4 : Nat) ∨ (ol + (ct - 1)) % 8 = (5 : Nat) ∨ (ol + (ct - 1)) % 8 = (6 : Nat) ∨ (ol + (ct - 1)) % 8 = (7 : Nat) := by omega
  refine z_introF (ls := [(0, _), (1, _)]) (by decide +kernel) rfl (fun _ _ => rfl) (fun _ _ => Nat.le_of_ble_eq_true rfl) ?_
  rcases hj with hj | hj | hj | hj | hj | hj | hj | hj
  · refine wa_aload_n (pc' := 1) dX1_restore_0 rfl rfl rfl ?_
    refine wa_aload_n (pc' := 2) dX1_restore_1 rfl rfl rfl ?_
    refine wa_getfield (pc' := 5) (j := 2) zc_X1 lk_X1_18 dX1_restore_2 rfl (by decide) rfl rfl ?_
    refine wa_iconst (pc' := 6) dX1_restore_5 rfl ?_
    refine wa_isub (pc' := 7) dX1_restore_6 rfl ?_
    refine wa_rV (pc' := 10) (k_X1_stateAt H ol ct (ct - 1) 0 hj (by omega) (by omega)) ok_X1_stateAt lm_X1_22 dX1_restore_7 rfl [0, 1, 2, 3, 4, 5, 6, 7, 8, 9, 10, 11, 12, 13, 14, 15, 16, 17, 18, 19, 20, 21, 22, 23, 24, 25, 26, 27, 28, 29, 30, 31, 32, 33] (hsub_h H ol ct s) (by decide) rfl rfl rfl rfl rfl (by decide) (Nat.le_of_ble_eq_true rfl) rfl (by decide) (by decide) rfl ?_
    show Wa _ _ _ _ _ _ _ _ [zR 2] _ _ _
    refine wa_astore_n (pc' := 11) (ls' := [(2, _), (0, _), (1, _)]) dX1_restore_10 rfl rfl (by decide) rfl ?_
    refine wa_aload_n (pc' := 12) dX1_restore_11 rfl rfl rfl ?_
    refine wa_getfield (pc' := 15) (j := 2) zc_X1 lk_X1_18 dX1_restore_12 rfl (by decide) rfl rfl ?_
    refine wa_if_le (tgt := 37) (pc' := 18) dX1_restore_15 (by decide) rfl (by omega) (fun c15 => ?_) (fun c15 => ?_)
    · exact absurd c15 (by omega)
    · refine wa_aload_n (pc' := 19) dX1_restore_18 rfl rfl rfl ?_
      refine wa_ifnull (tgt := 37) (pc' := 22) dX1_restore_19 (by decide) rfl (fun c19 => ?_) (fun c19 => ?_)
      · exact nomatch c19
      · refine wa_aload_n (pc' := 23) dX1_restore_22 rfl rfl rfl ?_
        refine wa_aload_n (pc' := 24) dX1_restore_23 rfl rfl rfl ?_
        refine wa_dV (pc' := 27) (w' := (_ :: _ :: zO _ [_, _, _, _, _, _, _] :: zA _ _ _ :: zA _ _ _ :: zA _ _ _ :: _ :: _ :: _ :: _ :: _ :: _ :: _ :: _ :: _ :: _ :: _ :: _ :: _ :: _ :: _ :: _ :: _ :: _ :: _ :: _ :: _ :: _ :: _ :: _ :: _ :: _ :: _ :: _ :: zO _ [_, _, _, _, _, _, _] :: zA _ _ _ :: zA _ _ _ :: zA _ _ _ :: [])) (k_X8_copyFrom _ _ _ _ _ _ _ _ _ _ _ _ _ _ (hH 0 (by decide)).1 (hH 0 (by decide)).2) ok_X8_copyFrom lm_X1_26 dX1_restore_24 rfl [34, 35, 36, 37, 2, 3, 4, 5] rfl (by decide) rfl rfl rfl rfl rfl (by decide) (Nat.le_of_ble_eq_true rfl) rfl (by decide) (by decide) rfl rfl rfl ?_
        refine wa_aload_n (pc' := 28) dX1_restore_27 rfl rfl rfl ?_
        refine wa_dup (pc' := 29) dX1_restore_28 rfl rfl ?_
        refine wa_getfield (pc' := 32) (j := 2) zc_X1 lk_X1_18 dX1_restore_29 rfl (by decide) rfl rfl ?_
        refine wa_iconst (pc' := 33) dX1_restore_32 rfl ?_
        refine wa_isub (pc' := 34) dX1_restore_33 rfl ?_
        refine wa_putfield (pc' := 37) (j := 2) (w' := (zO _ [_, _, _] :: _ :: _ :: _ :: _ :: _ :: _ :: _ :: _ :: _ :: _ :: _ :: _ :: _ :: _ :: _ :: _ :: _ :: _ :: _ :: _ :: _ :: _ :: _ :: _ :: _ :: _ :: _ :: _ :: _ :: _ :: _ :: _ :: _ :: _ :: _ :: _ :: _ :: [])) zc_X1 lk_X1_18 dX1_restore_34 rfl (by decide) rfl rfl (Nat.le_of_ble_eq_true rfl) True.intro rfl ?_
        refine wa_aload_n (pc' := 38) dX1_restore_37 rfl rfl rfl ?_
        refine wa_getfield (pc' := 41) (j := 2) zc_X1 lk_X1_18 dX1_restore_38 rfl (by decide) rfl rfl ?_
        refine wa_iret dX1_restore_41 rfl (by decide) (by decide) ?_
        exact zD_i rfl (by rw [hj] <;> rfl)
  · refine wa_aload_n (pc' := 1) dX1_restore_0 rfl rfl rfl ?_
    refine wa_aload_n (pc' := 2) dX1_restore_1 rfl rfl rfl ?_
    refine wa_getfield (pc' := 5) (j := 2) zc_X1 lk_X1_18 dX1_restore_2 rfl (by decide) rfl rfl ?_
    refine wa_iconst (pc' := 6) dX1_restore_5 rfl ?_
    refine wa_isub (pc' := 7) dX1_restore_6 rfl ?_
    refine wa_rV (pc' := 10) (k_X1_stateAt H ol ct (ct - 1) 1 hj (by omega) (by omega)) ok_X1_stateAt lm_X1_22 dX1_restore_7 rfl [0, 1, 2, 3, 4, 5, 6, 7, 8, 9, 10, 11, 12, 13, 14, 15, 16, 17, 18, 19, 20, 21, 22, 23, 24, 25, 26, 27, 28, 29, 30, 31, 32, 33] (hsub_h H ol ct s) (by decide) rfl rfl rfl rfl rfl (by decide) (Nat.le_of_ble_eq_true rfl) rfl (by decide) (by decide) rfl ?_
    show Wa _ _ _ _ _ _ _ _ [zR 6] _ _ _
    refine wa_astore_n (pc' := 11) (ls' := [(2, _), (0, _), (1, _)]) dX1_restore_10 rfl rfl (by decide) rfl ?_
    refine wa_aload_n (pc' := 12) dX1_restore_11 rfl rfl rfl ?_
    refine wa_getfield (pc' := 15) (j := 2) zc_X1 lk_X1_18 dX1_restore_12 rfl (by decide) rfl rfl ?_
    refine wa_if_le (tgt := 37) (pc' := 18) dX1_restore_15 (by decide) rfl (by omega) (fun c15 => ?_) (fun c15 => ?_)
    · exact absurd c15 (by omega)
    · refine wa_aload_n (pc' := 19) dX1_restore_18 rfl rfl rfl ?_
      refine wa_ifnull (tgt := 37) (pc' := 22) dX1_restore_19 (by decide) rfl (fun c19 => ?_) (fun c19 => ?_)
      · exact nomatch c19
      · refine wa_aload_n (pc' := 23) dX1_restore_22 rfl rfl rfl ?_
        refine wa_aload_n (pc' := 24) dX1_restore_23 rfl rfl rfl ?_
        refine wa_dV (pc' := 27) (w' := (_ :: _ :: _ :: _ :: _ :: _ :: zO _ [_, _, _, _, _, _, _] :: zA _ _ _ :: zA _ _ _ :: zA _ _ _ :: _ :: _ :: _ :: _ :: _ :: _ :: _ :: _ :: _ :: _ :: _ :: _ :: _ :: _ :: _ :: _ :: _ :: _ :: _ :: _ :: _ :: _ :: _ :: _ :: zO _ [_, _, _, _, _, _, _] :: zA _ _ _ :: zA _ _ _ :: zA _ _ _ :: [])) (k_X8_copyFrom _ _ _ _ _ _ _ _ _ _ _ _ _ _ (hH 1 (by decide)).1 (hH 1 (by decide)).2) ok_X8_copyFrom lm_X1_26 dX1_restore_24 rfl [34, 35, 36, 37, 6, 7, 8, 9] rfl (by decide) rfl rfl rfl rfl rfl (by decide) (Nat.le_of_ble_eq_true rfl) rfl (by decide) (by decide) rfl rfl rfl ?_
        refine wa_aload_n (pc' := 28) dX1_restore_27 rfl rfl rfl ?_
        refine wa_dup (pc' := 29) dX1_restore_28 rfl rfl ?_
        refine wa_getfield (pc' := 32) (j := 2) zc_X1 lk_X1_18 dX1_restore_29 rfl (by decide) rfl rfl ?_
        refine wa_iconst (pc' := 33) dX1_restore_32 rfl ?_
        refine wa_isub (pc' := 34) dX1_restore_33 rfl ?_
        refine wa_putfield (pc' := 37) (j := 2) (w' := (zO _ [_, _, _] :: _ :: _ :: _ :: _ :: _ :: _ :: _ :: _ :: _ :: _ :: _ :: _ :: _ :: _ :: _ :: _ :: _ :: _ :: _ :: _ :: _ :: _ :: _ :: _ :: _ :: _ :: _ :: _ :: _ :: _ :: _ :: _ :: _ :: _ :: _ :: _ :: _ :: [])) zc_X1 lk_X1_18 dX1_restore_34 rfl (by decide) rfl rfl (Nat.le_of_ble_eq_true rfl) True.intro rfl ?_
        refine wa_aload_n (pc' := 38) dX1_restore_37 rfl rfl rfl ?_
        refine wa_getfield (pc' := 41) (j := 2) zc_X1 lk_X1_18 dX1_restore_38 rfl (by decide) rfl rfl ?_
        refine wa_iret dX1_restore_41 rfl (by decide) (by decide) ?_
        exact zD_i rfl (by rw [hj] <;> rfl)
  · refine wa_aload_n (pc' := 1) dX1_restore_0 rfl rfl rfl ?_
    refine wa_aload_n (pc' := 2) dX1_restore_1 rfl rfl rfl ?_
    refine wa_getfield (pc' := 5) (j := 2) zc_X1 lk_X1_18 dX1_restore_2 rfl (by decide) rfl rfl ?_
    refine wa_iconst (pc' := 6) dX1_restore_5 rfl ?_
    refine wa_isub (pc' := 7) dX1_restore_6 rfl ?_
    refine wa_rV (pc' := 10) (k_X1_stateAt H ol ct (ct - 1) 2 hj (by omega) (by omega)) ok_X1_stateAt lm_X1_22 dX1_restore_7 rfl [0, 1, 2, 3, 4, 5, 6, 7, 8, 9, 10, 11, 12, 13, 14, 15, 16, 17, 18, 19, 20, 21, 22, 23, 24, 25, 26, 27, 28, 29, 30, 31, 32, 33] (hsub_h H ol ct s) (by decide) rfl rfl rfl rfl rfl (by decide) (Nat.le_of_ble_eq_true rfl) rfl (by decide) (by decide) rfl ?_
    show Wa _ _ _ _ _ _ _ _ [zR 10] _ _ _
    refine wa_astore_n (pc' := 11) (ls' := [(2, _), (0, _), (1, _)]) dX1_restore_10 rfl rfl (by decide) rfl ?_
    refine wa_aload_n (pc' := 12) dX1_restore_11 rfl rfl rfl ?_
    refine wa_getfield (pc' := 15) (j := 2) zc_X1 lk_X1_18 dX1_restore_12 rfl (by decide) rfl rfl ?_
    refine wa_if_le (tgt := 37) (pc' := 18) dX1_restore_15 (by decide) rfl (by omega) (fun c15 => ?_) (fun c15 => ?_)
    · exact absurd c15 (by omega)
    · refine wa_aload_n (pc' := 19) dX1_restore_18 rfl rfl rfl ?_
      refine wa_ifnull (tgt := 37) (pc' := 22) dX1_restore_19 (by decide) rfl (fun c19 => ?_) (fun c19 => ?_)
      · exact nomatch c19
      · refine wa_aload_n (pc' := 23) dX1_restore_22 rfl rfl rfl ?_
        refine wa_aload_n (pc' := 24) dX1_restore_23 rfl rfl rfl ?_
        refine wa_dV (pc' := 27) (w' := (_ :: _ :: _ :: _ :: _ :: _ :: _ :: _ :: _ :: _ :: zO _ [_, _, _, _, _, _, _] :: zA _ _ _ :: zA _ _ _ :: zA _ _ _ :: _ :: _ :: _ :: _ :: _ :: _ :: _ :: _ :: _ :: _ :: _ :: _ :: _ :: _ :: _ :: _ :: _ :: _ :: _ :: _ :: zO _ [_, _, _, _, _, _, _] :: zA _ _ _ :: zA _ _ _ :: zA _ _ _ :: [])) (k_X8_copyFrom _ _ _ _ _ _ _ _ _ _ _ _ _ _ (hH 2 (by decide)).1 (hH 2 (by decide)).2) ok_X8_copyFrom lm_X1_26 dX1_restore_24 rfl [34, 35, 36, 37, 10, 11, 12, 13] rfl (by decide) rfl rfl rfl rfl rfl (by decide) (Nat.le_of_ble_eq_true rfl) rfl (by decide) (by decide) rfl rfl rfl ?_
        refine wa_aload_n (pc' := 28) dX1_restore_27 rfl rfl rfl ?_
        refine wa_dup (pc' := 29) dX1_restore_28 rfl rfl ?_
        refine wa_getfield (pc' := 32) (j := 2) zc_X1 lk_X1_18 dX1_restore_29 rfl (by decide) rfl rfl ?_
        refine wa_iconst (pc' := 33) dX1_restore_32 rfl ?_
        refine wa_isub (pc' := 34) dX1_restore_33 rfl ?_
        refine wa_putfield (pc' := 37) (j := 2) (w' := (zO _ [_, _, _] :: _ :: _ :: _ :: _ :: _ :: _ :: _ :: _ :: _ :: _ :: _ :: _ :: _ :: _ :: _ :: _ :: _ :: _ :: _ :: _ :: _ :: _ :: _ :: _ :: _ :: _ :: _ :: _ :: _ :: _ :: _ :: _ :: _ :: _ :: _ :: _ :: _ :: [])) zc_X1 lk_X1_18 dX1_restore_34 rfl (by decide) rfl rfl (Nat.le_of_ble_eq_true rfl) True.intro rfl ?_
        refine wa_aload_n (pc' := 38) dX1_restore_37 rfl rfl rfl ?_
        refine wa_getfield (pc' := 41) (j := 2) zc_X1 lk_X1_18 dX1_restore_38 rfl (by decide) rfl rfl ?_
        refine wa_iret dX1_restore_41 rfl (by decide) (by decide) ?_
        exact zD_i rfl (by rw [hj] <;> rfl)
  · refine wa_aload_n (pc' := 1) dX1_restore_0 rfl rfl rfl ?_
    refine wa_aload_n (pc' := 2) dX1_restore_1 rfl rfl rfl ?_
    refine wa_getfield (pc' := 5) (j := 2) zc_X1 lk_X1_18 dX1_restore_2 rfl (by decide) rfl rfl ?_
    refine wa_iconst (pc' := 6) dX1_restore_5 rfl ?_
    refine wa_isub (pc' := 7) dX1_restore_6 rfl ?_
    refine wa_rV (pc' := 10) (k_X1_stateAt H ol ct (ct - 1) 3 hj (by omega) (by omega)) ok_X1_stateAt lm_X1_22 dX1_restore_7 rfl [0, 1, 2, 3, 4, 5, 6, 7, 8, 9, 10, 11, 12, 13, 14, 15, 16, 17, 18, 19, 20, 21, 22, 23, 24, 25, 26, 27, 28, 29, 30, 31, 32, 33] (hsub_h H ol ct s) (by decide) rfl rfl rfl rfl rfl (by decide) (Nat.le_of_ble_eq_true rfl) rfl (by decide) (by decide) rfl ?_
    show Wa _ _ _ _ _ _ _ _ [zR 14] _ _ _
    refine wa_astore_n (pc' := 11) (ls' := [(2, _), (0, _), (1, _)]) dX1_restore_10 rfl rfl (by decide) rfl ?_
    refine wa_aload_n (pc' := 12) dX1_restore_11 rfl rfl rfl ?_
    refine wa_getfield (pc' := 15) (j := 2) zc_X1 lk_X1_18 dX1_restore_12 rfl (by decide) rfl rfl ?_
    refine wa_if_le (tgt := 37) (pc' := 18) dX1_restore_15 (by decide) rfl (by omega) (fun c15 => ?_) (fun c15 => ?_)
    · exact absurd c15 (by omega)
    · refine wa_aload_n (pc' := 19) dX1_restore_18 rfl rfl rfl ?_
      refine wa_ifnull (tgt := 37) (pc' := 22) dX1_restore_19 (by decide) rfl (fun c19 => ?_) (fun c19 => ?_)
      · exact nomatch c19
      · refine wa_aload_n (pc' := 23) dX1_restore_22 rfl rfl rfl ?_
        refine wa_aload_n (pc' := 24) dX1_restore_23 rfl rfl rfl ?_
        refine wa_dV (pc' := 27) (w' := (_ :: _ :: _ :: _ :: _ :: _ :: _ :: _ :: _ :: _ :: _ :: _ :: _ :: _ :: zO _ [_, _, _, _, _, _, _] :: zA _ _ _ :: zA _ _ _ :: zA _ _ _ :: _ :: _ :: _ :: _ :: _ :: _ :: _ :: _ :: _ :: _ :: _ :: _ :: _ :: _ :: _ :: _ :: zO _ [_, _, _, _, _, _, _] :: zA _ _ _ :: zA _ _ _ :: zA _ _ _ :: [])) (k_X8_copyFrom _ _ _ _ _ _ _ _ _ _ _ _ _ _ (hH 3 (by decide)).1 (hH 3 (by decide)).2) ok_X8_copyFrom lm_X1_26 dX1_restore_24 rfl [34, 35, 36, 37, 14, 15, 16, 17] rfl (by decide) rfl rfl rfl rfl rfl (by decide) (Nat.le_of_ble_eq_true rfl) rfl (by decide) (by decide) rfl rfl rfl ?_
        refine wa_aload_n (pc' := 28) dX1_restore_27 rfl rfl rfl ?_
        refine wa_dup (pc' := 29) dX1_restore_28 rfl rfl ?_
        refine wa_getfield (pc' := 32) (j := 2) zc_X1 lk_X1_18 dX1_restore_29 rfl (by decide) rfl rfl ?_
        refine wa_iconst (pc' := 33) dX1_restore_32 rfl ?_
        refine wa_isub (pc' := 34) dX1_restore_33 rfl ?_
        refine wa_putfield (pc' := 37) (j := 2) (w' := (zO _ [_, _, _] :: _ :: _ :: _ :: _ :: _ :: _ :: _ :: _ :: _ :: _ :: _ :: _ :: _ :: _ :: _ :: _ :: _ :: _ :: _ :: _ :: _ :: _ :: _ :: _ :: _ :: _ :: _ :: _ :: _ :: _ :: _ :: _ :: _ :: _ :: _ :: _ :: _ :: [])) zc_X1 lk_X1_18 dX1_restore_34 rfl (by decide) rfl rfl (Nat.le_of_ble_eq_true rfl) True.intro rfl ?_
        refine wa_aload_n (pc' := 38) dX1_restore_37 rfl rfl rfl ?_
        refine wa_getfield (pc' := 41) (j := 2) zc_X1 lk_X1_18 dX1_restore_38 rfl (by decide) rfl rfl ?_
        refine wa_iret dX1_restore_41 rfl (by decide) (by decide) ?_
        exact zD_i rfl (by rw [hj] <;> rfl)
  · refine wa_aload_n (pc' := 1) dX1_restore_0 rfl rfl rfl ?_
    refine wa_aload_n (pc' := 2) dX1_restore_1 rfl rfl rfl ?_
    refine wa_getfield (pc' := 5) (j := 2) zc_X1 lk_X1_18 dX1_restore_2 rfl (by decide) rfl rfl ?_
    refine wa_iconst (pc' := 6) dX1_restore_5 rfl ?_
    refine wa_isub (pc' := 7) dX1_restore_6 rfl ?_
    refine wa_rV (pc' := 10) (k_X1_stateAt H ol ct (ct - 1) 4 hj (by omega) (by omega)) ok_X1_stateAt lm_X1_22 dX1_restore_7 rfl [0, 1, 2, 3, 4, 5, 6, 7, 8, 9, 10, 11, 12, 13, 14, 15, 16, 17, 18, 19, 20, 21, 22, 23, 24, 25, 26, 27, 28, 29, 30, 31, 32, 33] (hsub_h H ol ct s) (by decide) rfl rfl rfl rfl rfl (by decide) (Nat.le_of_ble_eq_true rfl) rfl (by decide) (by decide) rfl ?_
    show Wa _ _ _ _ _ _ _ _ [zR 18] _ _ _
    refine wa_astore_n (pc' := 11) (ls' := [(2, _), (0, _), (1, _)]) dX1_restore_10 rfl rfl (by decide) rfl ?_
    refine wa_aload_n (pc' := 12) dX1_restore_11 rfl rfl rfl ?_
    refine wa_getfield (pc' := 15) (j := 2) zc_X1 lk_X1_18 dX1_restore_12 rfl (by decide) rfl rfl ?_
    refine wa_if_le (tgt := 37) (pc' := 18) dX1_restore_15 (by decide) rfl (by omega) (fun c15 => ?_) (fun c15 => ?_)
    · exact absurd c15 (by omega)
    · refine wa_aload_n (pc' := 19) dX1_restore_18 rfl rfl rfl ?_
      refine wa_ifnull (tgt := 37) (pc' := 22) dX1_restore_19 (by decide) rfl (fun c19 => ?_) (fun c19 => ?_)
      · exact nomatch c19
      · refine wa_aload_n (pc' := 23) dX1_restore_22 rfl rfl rfl ?_
        refine wa_aload_n (pc' := 24) dX1_restore_23 rfl rfl rfl ?_
        refine wa_dV (pc' := 27) (w' := (_ :: _ :: _ :: _ :: _ :: _ :: _ :: _ :: _ :: _ :: _ :: _ :: _ :: _ :: _ :: _ :: _ :: _ :: zO _ [_, _, _, _, _, _, _] :: zA _ _ _ :: zA _ _ _ :: zA _ _ _ :: _ :: _ :: _ :: _ :: _ :: _ :: _ :: _ :: _ :: _ :: _ :: _ :: zO _ [_, _, _, _, _, _, _] :: zA _ _ _ :: zA _ _ _ :: zA _ _ _ :: [])) (k_X8_copyFrom _ _ _ _ _ _ _ _ _ _ _ _ _ _ (hH 4 (by decide)).1 (hH 4 (by decide)).2) ok_X8_copyFrom lm_X1_26 dX1_restore_24 rfl [34, 35, 36, 37, 18, 19, 20, 21] rfl (by decide) rfl rfl rfl rfl rfl (by decide) (Nat.le_of_ble_eq_true rfl) rfl (by decide) (by decide) rfl rfl rfl ?_
        refine wa_aload_n (pc' := 28) dX1_restore_27 rfl rfl rfl ?_
        refine wa_dup (pc' := 29) dX1_restore_28 rfl rfl ?_
        refine wa_getfield (pc' := 32) (j := 2) zc_X1 lk_X1_18 dX1_restore_29 rfl (by decide) rfl rfl ?_
        refine wa_iconst (pc' := 33) dX1_restore_32 rfl ?_
        refine wa_isub (pc' := 34) dX1_restore_33 rfl ?_
        refine wa_putfield (pc' := 37) (j := 2) (w' := (zO _ [_, _, _] :: _ :: _ :: _ :: _ :: _ :: _ :: _ :: _ :: _ :: _ :: _ :: _ :: _ :: _ :: _ :: _ :: _ :: _ :: _ :: _ :: _ :: _ :: _ :: _ :: _ :: _ :: _ :: _ :: _ :: _ :: _ :: _ :: _ :: _ :: _ :: _ :: _ :: [])) zc_X1 lk_X1_18 dX1_restore_34 rfl (by decide) rfl rfl (Nat.le_of_ble_eq_true rfl) True.intro rfl ?_
        refine wa_aload_n (pc' := 38) dX1_restore_37 rfl rfl rfl ?_
        refine wa_getfield (pc' := 41) (j := 2) zc_X1 lk_X1_18 dX1_restore_38 rfl (by decide) rfl rfl ?_
        refine wa_iret dX1_restore_41 rfl (by decide) (by decide) ?_
        exact zD_i rfl (by rw [hj] <;> rfl)
  · refine wa_aload_n (pc' := 1) dX1_restore_0 rfl rfl rfl ?_
    refine wa_aload_n (pc' := 2) dX1_restore_1 rfl rfl rfl ?_
    refine wa_getfield (pc' := 5) (j := 2) zc_X1 lk_X1_18 dX1_restore_2 rfl (by decide) rfl rfl ?_
    refine wa_iconst (pc' := 6) dX1_restore_5 rfl ?_
    refine wa_isub (pc' := 7) dX1_restore_6 rfl ?_
    refine wa_rV (pc' := 10) (k_X1_stateAt H ol ct (ct - 1) 5 hj (by omega) (by omega)) ok_X1_stateAt lm_X1_22 dX1_restore_7 rfl [0, 1, 2, 3, 4, 5, 6, 7, 8, 9, 10, 11, 12, 13, 14, 15, 16, 17, 18, 19, 20, 21, 22, 23, 24, 25, 26, 27, 28, 29, 30, 31, 32, 33] (hsub_h H ol ct s) (by decide) rfl rfl rfl rfl rfl (by decide) (Nat.le_of_ble_eq_true rfl) rfl (by decide) (by decide) rfl ?_
    show Wa _ _ _ _ _ _ _ _ [zR 22] _ _ _
    refine wa_astore_n (pc' := 11) (ls' := [(2, _), (0, _), (1, _)]) dX1_restore_10 rfl rfl (by decide) rfl ?_
    refine wa_aload_n (pc' := 12) dX1_restore_11 rfl rfl rfl ?_
    refine wa_getfield (pc' := 15) (j := 2) zc_X1 lk_X1_18 dX1_restore_12 rfl (by decide) rfl rfl ?_
    refine wa_if_le (tgt := 37) (pc' := 18) dX1_restore_15 (by decide) rfl (by omega) (fun c15 => ?_) (fun c15 => ?_)
    · exact absurd c15 (by omega)
    · refine wa_aload_n (pc' := 19) dX1_restore_18 rfl rfl rfl ?_
      refine wa_ifnull (tgt := 37) (pc' := 22) dX1_restore_19 (by decide) rfl (fun c19 => ?_) (fun c19 => ?_)
      · exact nomatch c19
      · refine wa_aload_n (pc' := 23) dX1_restore_22 rfl rfl rfl ?_
        refine wa_aload_n (pc' := 24) dX1_restore_23 rfl rfl rfl ?_
        refine wa_dV (pc' := 27) (w' := (_ :: _ :: _ :: _ :: _ :: _ :: _ :: _ :: _ :: _ :: _ :: _ :: _ :: _ :: _ :: _ :: _ :: _ :: _ :: _ :: _ :: _ :: zO _ [_, _, _, _, _, _, _] :: zA _ _ _ :: zA _ _ _ :: zA _ _ _ :: _ :: _ :: _ :: _ :: _ :: _ :: _ :: _ :: zO _ [_, _, _, _, _, _, _] :: zA _ _ _ :: zA _ _ _ :: zA _ _ _ :: [])) (k_X8_copyFrom _ _ _ _ _ _ _ _ _ _ _ _ _ _ (hH 5 (by decide)).1 (hH 5 (by decide)).2) ok_X8_copyFrom lm_X1_26 dX1_restore_24 rfl [34, 35, 36, 37, 22, 23, 24, 25] rfl (by decide) rfl rfl rfl rfl rfl (by decide) (Nat.le_of_ble_eq_true rfl) rfl (by decide) (by decide) rfl rfl rfl ?_
        refine wa_aload_n (pc' := 28) dX1_restore_27 rfl rfl rfl ?_
        refine wa_dup (pc' := 29) dX1_restore_28 rfl rfl ?_
        refine wa_getfield (pc' := 32) (j := 2) zc_X1 lk_X1_18 dX1_restore_29 rfl (by decide) rfl rfl ?_
        refine wa_iconst (pc' := 33) dX1_restore_32 rfl ?_
        refine wa_isub (pc' := 34) dX1_restore_33 rfl ?_
        refine wa_putfield (pc' := 37) (j := 2) (w' := (zO _ [_, _, _] :: _ :: _ :: _ :: _ :: _ :: _ :: _ :: _ :: _ :: _ :: _ :: _ :: _ :: _ :: _ :: _ :: _ :: _ :: _ :: _ :: _ :: _ :: _ :: _ :: _ :: _ :: _ :: _ :: _ :: _ :: _ :: _ :: _ :: _ :: _ :: _ :: _ :: [])) zc_X1 lk_X1_18 dX1_restore_34 rfl (by decide) rfl rfl (Nat.le_of_ble_eq_true rfl) True.intro rfl ?_
        refine wa_aload_n (pc' := 38) dX1_restore_37 rfl rfl rfl ?_
        refine wa_getfield (pc' := 41) (j := 2) zc_X1 lk_X1_18 dX1_restore_38 rfl (by decide) rfl rfl ?_
        refine wa_iret dX1_restore_41 rfl (by decide) (by decide) ?_
        exact zD_i rfl (by rw [hj] <;> rfl)
  · refine wa_aload_n (pc' := 1) dX1_restore_0 rfl rfl rfl ?_
    refine wa_aload_n (pc' := 2) dX1_restore_1 rfl rfl rfl ?_
    refine wa_getfield (pc' := 5) (j := 2) zc_X1 lk_X1_18 dX1_restore_2 rfl (by decide) rfl rfl ?_
    refine wa_iconst (pc' := 6) dX1_restore_5 rfl ?_
    refine wa_isub (pc' := 7) dX1_restore_6 rfl ?_
    refine wa_rV (pc' := 10) (k_X1_stateAt H ol ct (ct - 1) 6 hj (by omega) (by omega)) ok_X1_stateAt lm_X1_22 dX1_restore_7 rfl [0, 1, 2, 3, 4, 5, 6, 7, 8, 9, 10, 11, 12, 13, 14, 15, 16, 17, 18, 19, 20, 21, 22, 23, 24, 25, 26, 27, 28, 29, 30, 31, 32, 33] (hsub_h H ol ct s) (by decide) rfl rfl rfl rfl rfl (by decide) (Nat.le_of_ble_eq_true rfl) rfl (by decide) (by decide) rfl ?_
    show Wa _ _ _ _ _ _ _ _ [zR 26] _ _ _
    refine wa_astore_n (pc' := 11) (ls' := [(2, _), (0, _), (1, _)]) dX1_restore_10 rfl rfl (by decide) rfl ?_
    refine wa_aload_n (pc' := 12) dX1_restore_11 rfl rfl rfl ?_
    refine wa_getfield (pc' := 15) (j := 2) zc_X1 lk_X1_18 dX1_restore_12 rfl (by decide) rfl rfl ?_
    refine wa_if_le (tgt := 37) (pc' := 18) dX1_restore_15 (by decide) rfl (by omega) (fun c15 => ?_) (fun c15 => ?_)
    · exact absurd c15 (by omega)
    · refine wa_aload_n (pc' := 19) dX1_restore_18 rfl rfl rfl ?_
      refine wa_ifnull (tgt := 37) (pc' := 22) dX1_restore_19 (by decide) rfl (fun c19 => ?_) (fun c19 => ?_)
      · exact nomatch c19
      · refine wa_aload_n (pc' := 23) dX1_restore_22 rfl rfl rfl ?_
        refine wa_aload_n (pc' := 24) dX1_restore_23 rfl rfl rfl ?_
        refine wa_dV (pc' := 27) (w' := (_ :: _ :: _ :: _ :: _ :: _ :: _ :: _ :: _ :: _ :: _ :: _ :: _ :: _ :: _ :: _ :: _ :: _ :: _ :: _ :: _ :: _ :: _ :: _ :: _ :: _ :: zO _ [_, _, _, _, _, _, _] :: zA _ _ _ :: zA _ _ _ :: zA _ _ _ :: _ :: _ :: _ :: _ :: zO _ [_, _, _, _, _, _, _] :: zA _ _ _ :: zA _ _ _ :: zA _ _ _ :: [])) (k_X8_copyFrom _ _ _ _ _ _ _ _ _ _ _ _ _ _ (hH 6 (by decide)).1 (hH 6 (by decide)).2) ok_X8_copyFrom lm_X1_26 dX1_restore_24 rfl [34, 35, 36, 37, 26, 27, 28, 29] rfl (by decide) rfl rfl rfl rfl rfl (by decide) (Nat.le_of_ble_eq_true rfl) rfl (by decide) (by decide) rfl rfl rfl ?_
        refine wa_aload_n (pc' := 28) dX1_restore_27 rfl rfl rfl ?_
        refine wa_dup (pc' := 29) dX1_restore_28 rfl rfl ?_
        refine wa_getfield (pc' := 32) (j := 2) zc_X1 lk_X1_18 dX1_restore_29 rfl (by decide) rfl rfl ?_
        refine wa_iconst (pc' := 33) dX1_restore_32 rfl ?_
        refine wa_isub (pc' := 34) dX1_restore_33 rfl ?_
        refine wa_putfield (pc' := 37) (j := 2) (w' := (zO _ [_, _, _] :: _ :: _ :: _ :: _ :: _ :: _ :: _ :: _ :: _ :: _ :: _ :: _ :: _ :: _ :: _ :: _ :: _ :: _ :: _ :: _ :: _ :: _ :: _ :: _ :: _ :: _ :: _ :: _ :: _ :: _ :: _ :: _ :: _ :: _ :: _ :: _ :: _ :: [])) zc_X1 lk_X1_18 dX1_restore_34 rfl (by decide) rfl rfl (Nat.le_of_ble_eq_true rfl) True.intro rfl ?_
        refine wa_aload_n (pc' := 38) dX1_restore_37 rfl rfl rfl ?_
        refine wa_getfield (pc' := 41) (j := 2) zc_X1 lk_X1_18 dX1_restore_38 rfl (by decide) rfl rfl ?_
        refine wa_iret dX1_restore_41 rfl (by decide) (by decide) ?_
        exact zD_i rfl (by rw [hj] <;> rfl)
  · refine wa_aload_n (pc' := 1) dX1_restore_0 rfl rfl rfl ?_
    refine wa_aload_n (pc' := 2) dX1_restore_1 rfl rfl rfl ?_
    refine wa_getfield (pc' := 5) (j := 2) zc_X1 lk_X1_18 dX1_restore_2 rfl (by decide) rfl rfl ?_
    refine wa_iconst (pc' := 6) dX1_restore_5 rfl ?_
    refine wa_isub (pc' := 7) dX1_restore_6 rfl ?_
    refine wa_rV (pc' := 10) (k_X1_stateAt H ol ct (ct - 1) 7 hj (by omega) (by omega)) ok_X1_stateAt lm_X1_22 dX1_restore_7 rfl [0, 1, 2, 3, 4, 5, 6, 7, 8, 9, 10, 11, 12, 13, 14, 15, 16, 17, 18, 19, 20, 21, 22, 23, 24, 25, 26, 27, 28, 29, 30, 31, 32, 33] (hsub_h H ol ct s) (by decide) rfl rfl rfl rfl rfl (by decide) (Nat.le_of_ble_eq_true rfl) rfl (by decide) (by decide) rfl ?_
    show Wa _ _ _ _ _ _ _ _ [zR 30] _ _ _
    refine wa_astore_n (pc' := 11) (ls' := [(2, _), (0, _), (1, _)]) dX1_restore_10 rfl rfl (by decide) rfl ?_
    refine wa_aload_n (pc' := 12) dX1_restore_11 rfl rfl rfl ?_
    refine wa_getfield (pc' := 15) (j := 2) zc_X1 lk_X1_18 dX1_restore_12 rfl (by decide) rfl rfl ?_
    refine wa_if_le (tgt := 37) (pc' := 18) dX1_restore_15 (by decide) rfl (by omega) (fun c15 => ?_) (fun c15 => ?_)
    · exact absurd c15 (by omega)
    · refine wa_aload_n (pc' := 19) dX1_restore_18 rfl rfl rfl ?_
      refine wa_ifnull (tgt := 37) (pc' := 22) dX1_restore_19 (by decide) rfl (fun c19 => ?_) (fun c19 => ?_)
      · exact nomatch c19
      · refine wa_aload_n (pc' := 23) dX1_restore_22 rfl rfl rfl ?_
        refine wa_aload_n (pc' := 24) dX1_restore_23 rfl rfl rfl ?_
        refine wa_dV (pc' := 27) (w' := (_ :: _ :: _ :: _ :: _ :: _ :: _ :: _ :: _ :: _ :: _ :: _ :: _ :: _ :: _ :: _ :: _ :: _ :: _ :: _ :: _ :: _ :: _ :: _ :: _ :: _ :: _ :: _ :: _ :: _ :: zO _ [_, _, _, _, _, _, _] :: zA _ _ _ :: zA _ _ _ :: zA _ _ _ :: zO _ [_, _, _, _, _, _, _] :: zA _ _ _ :: zA _ _ _ :: zA _ _ _ :: [])) (k_X8_copyFrom _ _ _ _ _ _ _ _ _ _ _ _ _ _ (hH 7 (by decide)).1 (hH 7 (by decide)).2) ok_X8_copyFrom lm_X1_26 dX1_restore_24 rfl [34, 35, 36, 37, 30, 31, 32, 33] rfl (by decide) rfl rfl rfl rfl rfl (by decide) (Nat.le_of_ble_eq_true rfl) rfl (by decide) (by decide) rfl rfl rfl ?_
        refine wa_aload_n (pc' := 28) dX1_restore_27 rfl rfl rfl ?_
        refine wa_dup (pc' := 29) dX1_restore_28 rfl rfl ?_
        refine wa_getfield (pc' := 32) (j := 2) zc_X1 lk_X1_18 dX1_restore_29 rfl (by decide) rfl rfl ?_
        refine wa_iconst (pc' := 33) dX1_restore_32 rfl ?_
        refine wa_isub (pc' := 34) dX1_restore_33 rfl ?_
        refine wa_putfield (pc' := 37) (j := 2) (w' := (zO _ [_, _, _] :: _ :: _ :: _ :: _ :: _ :: _ :: _ :: _ :: _ :: _ :: _ :: _ :: _ :: _ :: _ :: _ :: _ :: _ :: _ :: _ :: _ :: _ :: _ :: _ :: _ :: _ :: _ :: _ :: _ :: _ :: _ :: _ :: _ :: _ :: _ :: _ :: _ :: [])) zc_X1 lk_X1_18 dX1_restore_34 rfl (by decide) rfl rfl (Nat.le_of_ble_eq_true rfl) True.intro rfl ?_
        refine wa_aload_n (pc' := 38) dX1_restore_37 rfl rfl rfl ?_
        refine wa_getfield (pc' := 41) (j := 2) zc_X1 lk_X1_18 dX1_restore_38 rfl (by decide) rfl rfl ?_
        refine wa_iret dX1_restore_41 rfl (by decide) (by decide) ?_
        exact zD_i rfl (by rw [hj] <;> rfl)

