/-! Row -/
set_option maxRecDepth 10000 in
set_option maxHeartbeats 1000000 in
theorem k_X7_size (n : Int) (f : Int → Int) : zMet q_X7_size 0 0 0 [zR 0] [zO 3 [zR 1, zI n], zA 1 680 f] (zD (some (zI n)) [zO 3 [zR 1, zI n], zA 1 680 f]) := by
  refine z_intro (ls := [(0, _)]) (by decide +kernel) rfl (fun _ _ => rfl) (fun _ _ => Nat.le_of_ble_eq_true rfl) ?_
  refine wa_aload_n (pc' := 1) dX7_size_0 rfl rfl rfl ?_
  refine wa_getfield (pc' := 4) (j := 1) zc_X7 lk_X7_15 dX7_size_1 rfl (by decide) rfl rfl ?_
  refine wa_iret dX7_size_4 rfl (by decide) (by decide) ?_
  exact ⟨rfl, rfl⟩

set_option maxRecDepth 10000 in
set_option maxHeartbeats 1000000 in
theorem k_X7_at (n : Int) (f : Int → Int) (h0 : 0 ≤ n) (h1 : n ≤ 680) (hf : ∀ j : Int, 0 ≤ j → j < n → 0 ≤ f j ∧ f j < 65536) (k : Int) (hk : zin k) : zMet q_X7_at 0 0 0 [zR 0, zI k] [zO 3 [zR 1, zI n], zA 1 680 f] (zD (some (zI (if 0 ≤ k ∧ k < n then f k else -1))) [zO 3 [zR 1, zI n], zA 1 680 f]) := by
  refine z_intro (ls := [(0, _), (1, _)]) (by decide +kernel) rfl (fun _ _ => rfl) (fun _ _ => Nat.le_of_ble_eq_true rfl) ?_
  refine wa_iload_n (pc' := 1) dX7_at_0 rfl rfl rfl ?_
  refine wa_if_lt (tgt := 30) (pc' := 4) dX7_at_1 (by decide) rfl (by omega) (fun c1 => ?_) (fun c1 => ?_)
  · refine wa_iconst (pc' := 31) dX7_at_30 rfl ?_
    refine wa_iret dX7_at_31 rfl (by decide) (by decide) ?_
    exact zD_i (by first | rw [if_pos (by omega)] | rw [if_neg (by omega)]) rfl
  · refine wa_iload_n (pc' := 5) dX7_at_4 rfl rfl rfl ?_
    refine wa_aload_n (pc' := 6) dX7_at_5 rfl rfl rfl ?_
    refine wa_getfield (pc' := 9) (j := 1) zc_X7 lk_X7_15 dX7_at_6 rfl (by decide) rfl rfl ?_
    refine wa_icmp_ge (tgt := 30) (pc' := 12) dX7_at_9 (by decide) rfl (by omega) (by omega) (fun c9 => ?_) (fun c9 => ?_)
    · refine wa_iconst (pc' := 31) dX7_at_30 rfl ?_
      refine wa_iret dX7_at_31 rfl (by decide) (by decide) ?_
      exact zD_i (by first | rw [if_pos (by omega)] | rw [if_neg (by omega)]) rfl
    · refine wa_iload_n (pc' := 13) dX7_at_12 rfl rfl rfl ?_
      refine wa_aload_n (pc' := 14) dX7_at_13 rfl rfl rfl ?_
      refine wa_getfield (pc' := 17) (j := 0) zc_X7 lk_X7_11 dX7_at_14 rfl (by decide) rfl rfl ?_
      refine wa_alen (pc' := 18) dX7_at_17 rfl rfl (by decide) ?_
      refine wa_icmp_ge (tgt := 30) (pc' := 21) dX7_at_18 (by decide) rfl (by omega) (by omega) (fun c18 => ?_) (fun c18 => ?_)
      · exact absurd c18 (by omega)
      · refine wa_aload_n (pc' := 22) dX7_at_21 rfl rfl rfl ?_
        refine wa_getfield (pc' := 25) (j := 0) zc_X7 lk_X7_11 dX7_at_22 rfl (by decide) rfl rfl ?_
        refine wa_iload_n (pc' := 26) dX7_at_25 rfl rfl rfl ?_
        refine wa_caload (pc' := 27) dX7_at_26 rfl rfl (by omega) (by omega) (by decide) ?_
        refine wa_goto (pc' := 31) dX7_at_27 (by decide) ?_
        refine wa_iret dX7_at_31 rfl (by decide) (by decide) ?_
        exact zD_i (by first | rw [if_pos (by omega)] | rw [if_neg (by omega)]) rfl

set_option maxRecDepth 10000 in
set_option maxHeartbeats 1000000 in
theorem k_X7_add (n : Int) (f : Int → Int) (h0 : 0 ≤ n) (h1 : n ≤ 680) (c : Int) (hc : 0 ≤ c ∧ c < 65536) : zMet q_X7_add 0 0 0 [zR 0, zI c] [zO 3 [zR 1, zI n], zA 1 680 f] (zD none [zO 3 [zR 1, zI (if n < 680 then n + 1 else n)], zA 1 680 (if n < 680 then zup f n c else f)]) := by
  refine z_intro (ls := [(0, _), (1, _)]) (by decide +kernel) rfl (fun _ _ => rfl) (fun _ _ => Nat.le_of_ble_eq_true rfl) ?_
  refine wa_aload_n (pc' := 1) dX7_add_0 rfl rfl rfl ?_
  refine wa_getfield (pc' := 4) (j := 1) zc_X7 lk_X7_15 dX7_add_1 rfl (by decide) rfl rfl ?_
  refine wa_if_lt (tgt := 39) (pc' := 7) dX7_add_4 (by decide) rfl (by omega) (fun c4 => ?_) (fun c4 => ?_)
  · exact absurd c4 (by omega)
  · refine wa_aload_n (pc' := 8) dX7_add_7 rfl rfl rfl ?_
    refine wa_getfield (pc' := 11) (j := 1) zc_X7 lk_X7_15 dX7_add_8 rfl (by decide) rfl rfl ?_
    refine wa_aload_n (pc' := 12) dX7_add_11 rfl rfl rfl ?_
    refine wa_getfield (pc' := 15) (j := 0) zc_X7 lk_X7_11 dX7_add_12 rfl (by decide) rfl rfl ?_
    refine wa_alen (pc' := 16) dX7_add_15 rfl rfl (by decide) ?_
    refine wa_icmp_ge (tgt := 39) (pc' := 19) dX7_add_16 (by decide) rfl (by omega) (by omega) (fun c16 => ?_) (fun c16 => ?_)
    · refine wa_vret dX7_add_39 rfl (by decide) (by decide) ?_
      exact zD_i rfl (by first | rw [if_pos (by omega), if_pos (by omega)] | rw [if_neg (by omega), if_neg (by omega)])
    · refine wa_aload_n (pc' := 20) dX7_add_19 rfl rfl rfl ?_
      refine wa_getfield (pc' := 23) (j := 0) zc_X7 lk_X7_11 dX7_add_20 rfl (by decide) rfl rfl ?_
      refine wa_aload_n (pc' := 24) dX7_add_23 rfl rfl rfl ?_
      refine wa_getfield (pc' := 27) (j := 1) zc_X7 lk_X7_15 dX7_add_24 rfl (by decide) rfl rfl ?_
      refine wa_iload_n (pc' := 28) dX7_add_27 rfl rfl rfl ?_
      refine wa_castore (pc' := 29) (w' := [_, zA _ _ _]) dX7_add_28 rfl rfl (by omega) (by omega) (by decide) (by omega) (by omega) rfl ?_
      refine wa_aload_n (pc' := 30) dX7_add_29 rfl rfl rfl ?_
      refine wa_dup (pc' := 31) dX7_add_30 rfl rfl ?_
      refine wa_getfield (pc' := 34) (j := 1) zc_X7 lk_X7_15 dX7_add_31 rfl (by decide) rfl rfl ?_
      refine wa_iconst (pc' := 35) dX7_add_34 rfl ?_
      refine wa_iadd (pc' := 36) dX7_add_35 rfl ?_
      refine wa_putfield (pc' := 39) (j := 1) (w' := [zO _ [_, _], _]) zc_X7 lk_X7_15 dX7_add_36 rfl (by decide) rfl rfl (Nat.le_of_ble_eq_true rfl) True.intro rfl ?_
      refine wa_vret dX7_add_39 rfl (by decide) (by decide) ?_
      exact zD_i rfl (by first | rw [if_pos (by omega), if_pos (by omega)] | rw [if_neg (by omega), if_neg (by omega)])

set_option maxRecDepth 10000 in
set_option maxHeartbeats 1000000 in
theorem k_X7_cutTo (n : Int) (f : Int → Int) (h0 : 0 ≤ n) (h1 : n ≤ 680) (k : Int) (hk : zin k) : zMet q_X7_cutTo 0 0 0 [zR 0, zI k] [zO 3 [zR 1, zI n], zA 1 680 f] (zD none [zO 3 [zR 1, zI (if 0 ≤ k ∧ k < n then k else n)], zA 1 680 f]) := by
  refine z_intro (ls := [(0, _), (1, _)]) (by decide +kernel) rfl (fun _ _ => rfl) (fun _ _ => Nat.le_of_ble_eq_true rfl) ?_
  refine wa_iload_n (pc' := 1) dX7_cutTo_0 rfl rfl rfl ?_
  refine wa_if_lt (tgt := 17) (pc' := 4) dX7_cutTo_1 (by decide) rfl (by omega) (fun c1 => ?_) (fun c1 => ?_)
  · refine wa_vret dX7_cutTo_17 rfl (by decide) (by decide) ?_
    exact zD_i rfl (by first | rw [if_pos (by omega)] | rw [if_neg (by omega)])
  · refine wa_iload_n (pc' := 5) dX7_cutTo_4 rfl rfl rfl ?_
    refine wa_aload_n (pc' := 6) dX7_cutTo_5 rfl rfl rfl ?_
    refine wa_getfield (pc' := 9) (j := 1) zc_X7 lk_X7_15 dX7_cutTo_6 rfl (by decide) rfl rfl ?_
    refine wa_icmp_ge (tgt := 17) (pc' := 12) dX7_cutTo_9 (by decide) rfl (by omega) (by omega) (fun c9 => ?_) (fun c9 => ?_)
    · refine wa_vret dX7_cutTo_17 rfl (by decide) (by decide) ?_
      exact zD_i rfl (by first | rw [if_pos (by omega)] | rw [if_neg (by omega)])
    · refine wa_aload_n (pc' := 13) dX7_cutTo_12 rfl rfl rfl ?_
      refine wa_iload_n (pc' := 14) dX7_cutTo_13 rfl rfl rfl ?_
      refine wa_putfield (pc' := 17) (j := 1) (w' := [zO _ [_, _], _]) zc_X7 lk_X7_15 dX7_cutTo_14 rfl (by decide) rfl rfl (Nat.le_of_ble_eq_true rfl) True.intro rfl ?_
      refine wa_vret dX7_cutTo_17 rfl (by decide) (by decide) ?_
      exact zD_i rfl (by first | rw [if_pos (by omega)] | rw [if_neg (by omega)])

