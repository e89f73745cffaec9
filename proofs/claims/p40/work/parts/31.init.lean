/-! constructors -/
set_option maxRecDepth 10000 in
set_option maxHeartbeats 1000000 in
theorem k_X7_init  : zMet q_X7_init 1 1 680 [zR 0] [zO 3 [zN, zI 0]] (zD none [zO 3 [zR 1, zI 0], zA 1 680 (fun _ => 0)]) := by
  refine z_introF (ls := [(0, _)]) (by decide +kernel) rfl (fun _ _ => rfl) (fun _ _ => Nat.le_of_ble_eq_true rfl) ?_
  refine wa_aload_n (pc' := 1) dX7_init_0 rfl rfl rfl ?_
  refine wa_objI (pc' := 4) lo_X7 dX7_init_1 rfl (by decide) (Nat.le_of_ble_eq_true rfl) ?_
  refine wa_aload_n (pc' := 5) dX7_init_4 rfl rfl rfl ?_
  refine wa_sipush (pc' := 8) dX7_init_5 rfl rfl ?_
  refine wa_newarr (pc' := 10) (t := 1) (n := 680) (Or.inr ⟨rfl, rfl⟩) lar_char rfl dX7_init_8 rfl rfl (by decide) ⟨rfl, trivial⟩ rfl rfl rfl rfl (by decide) (by decide) rfl ?_
  show Wa _ _ _ _ _ _ _ _ (zR 1 :: _) [_, zA _ _ _] _ _
  refine wa_putfieldF (pc' := 13) (j := 0) (w' := [zO _ [_, _], _]) zc_X7 lk_X7_11 dX7_init_10 rfl (by decide) rfl rfl rfl rfl (Nat.le_of_ble_eq_true rfl) True.intro rfl ?_
  refine wa_vret dX7_init_13 rfl (by decide) (by decide) ?_
  exact ⟨rfl, rfl⟩

set_option maxRecDepth 10000 in
set_option maxHeartbeats 1000000 in
theorem k_X8_init  : zMet q_X8_init 1 3 602 [zR 0] [zO 4 [zN, zN, zI 0, zN, zI 0, zI 0, zI 0]] (zD none [zO 4 [zR 1, zR 2, zI 1, zR 3, zI 0, zI 0, zI 0], zA 1 200 (fun _ => 0), zA 0 202 (fun _ => 0), zA 0 200 (fun _ => 0)]) := by
  refine z_introF (ls := [(0, _)]) (by decide +kernel) rfl (fun _ _ => rfl) (fun _ _ => Nat.le_of_ble_eq_true rfl) ?_
  refine wa_aload_n (pc' := 1) dX8_init_0 rfl rfl rfl ?_
  refine wa_objI (pc' := 4) lo_X8 dX8_init_1 rfl (by decide) (Nat.le_of_ble_eq_true rfl) ?_
  refine wa_aload_n (pc' := 5) dX8_init_4 rfl rfl rfl ?_
  refine wa_sipush (pc' := 8) dX8_init_5 rfl rfl ?_
  refine wa_newarr (pc' := 10) (t := 1) (n := 200) (Or.inr ⟨rfl, rfl⟩) lar_char rfl dX8_init_8 rfl rfl (by decide) ⟨rfl, trivial⟩ rfl rfl rfl rfl (by decide) (by decide) rfl ?_
  show Wa _ _ _ _ _ _ _ _ (zR 1 :: _) [_, zA _ _ _] _ _
  refine wa_putfieldF (pc' := 13) (j := 0) (w' := [zO _ [_, _, _, _, _, _, _], _]) zc_X8 lk_X8_9 dX8_init_10 rfl (by decide) rfl rfl rfl rfl (Nat.le_of_ble_eq_true rfl) True.intro rfl ?_
  refine wa_aload_n (pc' := 14) dX8_init_13 rfl rfl rfl ?_
  refine wa_sipush (pc' := 17) dX8_init_14 rfl rfl ?_
  refine wa_newarr (pc' := 19) (t := 0) (n := 202) (Or.inl ⟨rfl, rfl⟩) lar_int rfl dX8_init_17 rfl rfl (by decide) ⟨rfl, trivial, trivial⟩ rfl rfl rfl rfl (by decide) (by decide) rfl ?_
  show Wa _ _ _ _ _ _ _ _ (zR 2 :: _) [_, _, zA _ _ _] _ _
  refine wa_putfieldF (pc' := 22) (j := 1) (w' := [zO _ [_, _, _, _, _, _, _], _, _]) zc_X8 lk_X8_15 dX8_init_19 rfl (by decide) rfl rfl rfl rfl (Nat.le_of_ble_eq_true rfl) True.intro rfl ?_
  refine wa_aload_n (pc' := 23) dX8_init_22 rfl rfl rfl ?_
  refine wa_iconst (pc' := 24) dX8_init_23 rfl ?_
  refine wa_putfield (pc' := 27) (j := 2) (w' := [zO _ [_, _, _, _, _, _, _], _, _]) zc_X8 lk_X8_19 dX8_init_24 rfl (by decide) rfl rfl (Nat.le_of_ble_eq_true rfl) True.intro rfl ?_
  refine wa_aload_n (pc' := 28) dX8_init_27 rfl rfl rfl ?_
  refine wa_sipush (pc' := 31) dX8_init_28 rfl rfl ?_
  refine wa_newarr (pc' := 33) (t := 0) (n := 200) (Or.inl ⟨rfl, rfl⟩) lar_int rfl dX8_init_31 rfl rfl (by decide) ⟨rfl, trivial, trivial, trivial⟩ rfl rfl rfl rfl (by decide) (by decide) rfl ?_
  show Wa _ _ _ _ _ _ _ _ (zR 3 :: _) [_, _, _, zA _ _ _] _ _
  refine wa_putfieldF (pc' := 36) (j := 3) (w' := [zO _ [_, _, _, _, _, _, _], _, _, _]) zc_X8 lk_X8_23 dX8_init_33 rfl (by decide) rfl rfl rfl rfl (Nat.le_of_ble_eq_true rfl) True.intro rfl ?_
  refine wa_vret dX8_init_36 rfl (by decide) (by decide) ?_
  exact ⟨rfl, rfl⟩

set_option maxRecDepth 10000 in
set_option maxHeartbeats 1000000 in
theorem k_X6_init (r : zRw) : zMet q_X6_init 1 0 0 [zR 0, zR 1] [zO 2 [zN, zI 0, zI 0, zI 0, zI 0, zI 0], zO 3 [zR 2, zI r.1], zA 1 680 r.2] (zD none [zO 2 [zR 1, zI 0, zI 0, zI 0, zI 0, zI 0], zO 3 [zR 2, zI r.1], zA 1 680 r.2]) := by
  refine z_introF (ls := [(0, _), (1, _)]) (by decide +kernel) rfl (fun _ _ => rfl) (fun _ _ => Nat.le_of_ble_eq_true rfl) ?_
  refine wa_aload_n (pc' := 1) dX6_init_0 rfl rfl rfl ?_
  refine wa_objI (pc' := 4) lo_X6 dX6_init_1 rfl (by decide) (Nat.le_of_ble_eq_true rfl) ?_
  refine wa_aload_n (pc' := 5) dX6_init_4 rfl rfl rfl ?_
  refine wa_aload_n (pc' := 6) dX6_init_5 rfl rfl rfl ?_
  refine wa_putfieldF (pc' := 9) (j := 0) (w' := [zO _ [_, _, _, _, _, _], _, _]) zc_X6 lk_X6_9 dX6_init_6 rfl (by decide) rfl rfl rfl rfl (Nat.le_of_ble_eq_true rfl) True.intro rfl ?_
  refine wa_vret dX6_init_9 rfl (by decide) (by decide) ?_
  exact ⟨rfl, rfl⟩

set_option maxRecDepth 10000 in
set_option maxHeartbeats 1000000 in
theorem k_X3_init (s : zSh) : zMet q_X3_init 2 4 1364 [zR 0, zR 1] [zO 1 [zN, zN, zN, zI 0, zI 0, zI 0, zI 0, zI 0, zI 0, zI 0, zI 0], zO 4 [zR 2, zR 3, zI s.2.2.2.1, zR 4, zI s.2.2.2.2.1, zI s.2.2.2.2.2.1, zI s.2.2.2.2.2.2], zA 1 200 s.1, zA 0 202 s.2.1, zA 0 200 s.2.2.1] (zD none (wLy s ((0, fun _ => 0), (0, fun _ => 0), 0, 0, 0, 0, 0, 0, 0, 0))) := by
  refine z_introF (ls := [(0, _), (1, _)]) (by decide +kernel) rfl (fun _ _ => rfl) (fun _ _ => Nat.le_of_ble_eq_true rfl) ?_
  refine wa_aload_n (pc' := 1) dX3_init_0 rfl rfl rfl ?_
  refine wa_objI (pc' := 4) lo_X3 dX3_init_1 rfl (by decide) (Nat.le_of_ble_eq_true rfl) ?_
  refine wa_aload_n (pc' := 5) dX3_init_4 rfl rfl rfl ?_
  refine wa_new (pc' := 8) (fs := [zN, zI 0]) zc_X7 lcl_X3_9 dX3_init_5 rfl born_X7 rfl ⟨rfl, rfl, trivial, trivial, trivial, trivial⟩ rfl rfl rfl rfl (by decide) (by decide) rfl ?_
  show Wa _ _ _ _ _ _ _ _ (zR 5 :: _) [_, _, _, _, _, zO _ [_, _]] _ _
  refine wa_dup (pc' := 9) dX3_init_8 rfl rfl ?_
  refine wa_iVN (pc' := 12) (w2 := [_, _, _, _, _, zO _ [_, _], zA _ _ _]) k_X7_init ok_X7_init lm_X3_11 dX3_init_9 rfl [5] rfl (by decide) rfl rfl (by decide) (Nat.le_of_ble_eq_true rfl) ⟨rfl, rfl, trivial, trivial, trivial, rfl, trivial⟩ rfl rfl (Nat.le_of_ble_eq_true rfl) rfl rfl (by decide) (by decide) rfl ?_
  refine wa_putfieldF (pc' := 15) (j := 1) (w' := [zO _ [_, _, _, _, _, _, _, _, _, _, _], _, _, _, _, _, _]) zc_X3 lk_X3_12 dX3_init_12 rfl (by decide) rfl rfl rfl rfl (Nat.le_of_ble_eq_true rfl) True.intro rfl ?_
  refine wa_aload_n (pc' := 16) dX3_init_15 rfl rfl rfl ?_
  refine wa_new (pc' := 19) (fs := [zN, zI 0]) zc_X7 lcl_X3_9 dX3_init_16 rfl born_X7 rfl ⟨rfl, rfl, trivial, trivial, trivial, rfl, trivial, trivial⟩ rfl rfl rfl rfl (by decide) (by decide) rfl ?_
  show Wa _ _ _ _ _ _ _ _ (zR 7 :: _) [_, _, _, _, _, _, _, zO _ [_, _]] _ _
  refine wa_dup (pc' := 20) dX3_init_19 rfl rfl ?_
  refine wa_iVN (pc' := 23) (w2 := [_, _, _, _, _, _, _, zO _ [_, _], zA _ _ _]) k_X7_init ok_X7_init lm_X3_11 dX3_init_20 rfl [7] rfl (by decide) rfl rfl (by decide) (Nat.le_of_ble_eq_true rfl) ⟨rfl, rfl, trivial, trivial, trivial, rfl, trivial, rfl, trivial⟩ rfl rfl (Nat.le_of_ble_eq_true rfl) rfl rfl (by decide) (by decide) rfl ?_
  refine wa_putfieldF (pc' := 26) (j := 2) (w' := [zO _ [_, _, _, _, _, _, _, _, _, _, _], _, _, _, _, _, _, _, _]) zc_X3 lk_X3_18 dX3_init_23 rfl (by decide) rfl rfl rfl rfl (Nat.le_of_ble_eq_true rfl) True.intro rfl ?_
  refine wa_aload_n (pc' := 27) dX3_init_26 rfl rfl rfl ?_
  refine wa_aload_n (pc' := 28) dX3_init_27 rfl rfl rfl ?_
  refine wa_putfieldF (pc' := 31) (j := 0) (w' := [zO _ [_, _, _, _, _, _, _, _, _, _, _], _, _, _, _, _, _, _, _]) zc_X3 lk_X3_21 dX3_init_28 rfl (by decide) rfl rfl rfl rfl (Nat.le_of_ble_eq_true rfl) True.intro rfl ?_
  refine wa_vret dX3_init_31 rfl (by decide) (by decide) ?_
  exact ⟨rfl, rfl⟩

