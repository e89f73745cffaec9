/-! the ring's constructor -/
def hS0 : Nat → zSh := fun _ => (fun _ => 0, fun _ => 0, fun _ => 0, 1, 0, 0, 0)
def hQj : Nat → Nat → Option Nat
  | 0 => fun _ => none
  | n + 1 => zupQ (hQj n) n (2 + 4 * n)
theorem hQj_ok : ∀ (n m : Nat), Nat.ble (2 + 4 * n) m = true → ∀ j k, hQj n j = some k → k < m
  | 0, m, _, j, k, h => nomatch h
  | n + 1, m, hm, j, k, h => by
    have hm := Nat.le_of_ble_eq_true hm
    exact zupQ_ok (hQj_ok n m (Nat.ble_eq_true_of_le (by omega))) (by omega) j k h
theorem hQ8 : hQj 8 = hQ0 := by
  funext j
  simp only [hQj, zupQ, hQ0]
  (repeat' split) <;> first | rfl | omega
set_option maxRecDepth 10000 in
set_option maxHeartbeats 1000000 in
theorem hi_t0 {n0 : Nat} {Post : zP → List zE → Prop} (k : Wa q_X1_init 2 33 4880 n0 Post 15 [(1, zI 1), (0, zR 0)] [] [zO 0 [zR 1, zI 0, zI 0], zQ 8 (hQj 1), zO 4 [zR 3, zR 4, zI 1, zR 5, zI 0, zI 0, zI 0], zA 1 200 (fun _ => 0), zA 0 202 (fun _ => 0), zA 0 200 (fun _ => 0)] 5 617) : Wa q_X1_init 2 33 4880 n0 Post 15 [(1, zI 0), (0, zR 0)] [] [zO 0 [zR 1, zI 0, zI 0], zQ 8 (hQj 0)] 1 8 := by
  refine wa_iload_n (pc' := 16) dX1_init_15 rfl rfl rfl ?_
  refine wa_aload_n (pc' := 17) dX1_init_16 rfl rfl rfl ?_
  refine wa_getfield (pc' := 20) (j := 0) zc_X1 lk_X1_11 dX1_init_17 rfl (by decide) rfl rfl ?_
  refine wa_alenQ (pc' := 21) dX1_init_20 rfl rfl ?_
  refine wa_icmp_ge (tgt := 43) (pc' := 24) dX1_init_21 (by decide) rfl (by omega) (by omega) (fun c21 => ?_) (fun c21 => ?_)
  · exact absurd c21 (by omega)
  · refine wa_aload_n (pc' := 25) dX1_init_24 rfl rfl rfl ?_
    refine wa_getfield (pc' := 28) (j := 0) zc_X1 lk_X1_11 dX1_init_25 rfl (by decide) rfl rfl ?_
    refine wa_iload_n (pc' := 29) dX1_init_28 rfl rfl rfl ?_
    refine wa_new (pc' := 32) (fs := [zN, zN, zI 0, zN, zI 0, zI 0, zI 0]) zc_X8 lcl_X1_9 dX1_init_29 rfl born_X8 rfl ⟨rfl, (hQj_ok 0 _ rfl), trivial⟩ rfl rfl rfl rfl (by decide) (by decide) rfl ?_
    show Wa _ _ _ _ _ _ _ _ (zR 2 :: _) [_, _, zO _ [_, _, _, _, _, _, _]] _ _
    refine wa_dup (pc' := 33) dX1_init_32 rfl rfl ?_
    refine wa_iVN (pc' := 36) (w2 := [_, _, zO _ [_, _, _, _, _, _, _], zA _ _ _, zA _ _ _, zA _ _ _]) k_X8_init ok_X8_init lm_X1_17 dX1_init_33 rfl [2] rfl (by decide) rfl rfl (by decide) (Nat.le_of_ble_eq_true rfl) ⟨rfl, (hQj_ok 0 _ rfl), rfl, trivial⟩ rfl rfl (Nat.le_of_ble_eq_true rfl) rfl rfl (by decide) (by decide) rfl ?_
    refine wa_aastore (pc' := 37) (w' := [_, _, _, _, _, _]) dX1_init_36 rfl rfl rfl (by omega) (by omega) (by decide) rfl ?_
    refine wa_iinc (pc' := 40) (ls' := [(1, _), (0, _)]) dX1_init_37 rfl rfl (by decide) rfl ?_
    refine wa_goto (pc' := 15) dX1_init_40 (by decide) ?_
    exact k

set_option maxRecDepth 10000 in
set_option maxHeartbeats 1000000 in
theorem hi_t1 {n0 : Nat} {Post : zP → List zE → Prop} (k : Wa q_X1_init 2 33 4880 n0 Post 15 [(1, zI 2), (0, zR 0)] [] [zO 0 [zR 1, zI 0, zI 0], zQ 8 (hQj 2), zO 4 [zR 3, zR 4, zI 1, zR 5, zI 0, zI 0, zI 0], zA 1 200 (fun _ => 0), zA 0 202 (fun _ => 0), zA 0 200 (fun _ => 0), zO 4 [zR 7, zR 8, zI 1, zR 9, zI 0, zI 0, zI 0], zA 1 200 (fun _ => 0), zA 0 202 (fun _ => 0), zA 0 200 (fun _ => 0)] 9 1226) : Wa q_X1_init 2 33 4880 n0 Post 15 [(1, zI 1), (0, zR 0)] [] [zO 0 [zR 1, zI 0, zI 0], zQ 8 (hQj 1), zO 4 [zR 3, zR 4, zI 1, zR 5, zI 0, zI 0, zI 0], zA 1 200 (fun _ => 0), zA 0 202 (fun _ => 0), zA 0 200 (fun _ => 0)] 5 617 := by
  refine wa_iload_n (pc' := 16) dX1_init_15 rfl rfl rfl ?_
  refine wa_aload_n (pc' := 17) dX1_init_16 rfl rfl rfl ?_
  refine wa_getfield (pc' := 20) (j := 0) zc_X1 lk_X1_11 dX1_init_17 rfl (by decide) rfl rfl ?_
  refine wa_alenQ (pc' := 21) dX1_init_20 rfl rfl ?_
  refine wa_icmp_ge (tgt := 43) (pc' := 24) dX1_init_21 (by decide) rfl (by omega) (by omega) (fun c21 => ?_) (fun c21 => ?_)
  · exact absurd c21 (by omega)
  · refine wa_aload_n (pc' := 25) dX1_init_24 rfl rfl rfl ?_
    refine wa_getfield (pc' := 28) (j := 0) zc_X1 lk_X1_11 dX1_init_25 rfl (by decide) rfl rfl ?_
    refine wa_iload_n (pc' := 29) dX1_init_28 rfl rfl rfl ?_
    refine wa_new (pc' := 32) (fs := [zN, zN, zI 0, zN, zI 0, zI 0, zI 0]) zc_X8 lcl_X1_9 dX1_init_29 rfl born_X8 rfl ⟨rfl, (hQj_ok 1 _ rfl), rfl, trivial, trivial, trivial, trivial⟩ rfl rfl rfl rfl (by decide) (by decide) rfl ?_
    show Wa _ _ _ _ _ _ _ _ (zR 6 :: _) [_, _, _, _, _, _, zO _ [_, _, _, _, _, _, _]] _ _
    refine wa_dup (pc' := 33) dX1_init_32 rfl rfl ?_
    refine wa_iVN (pc' := 36) (w2 := [_, _, _, _, _, _, zO _ [_, _, _, _, _, _, _], zA _ _ _, zA _ _ _, zA _ _ _]) k_X8_init ok_X8_init lm_X1_17 dX1_init_33 rfl [6] rfl (by decide) rfl rfl (by decide) (Nat.le_of_ble_eq_true rfl) ⟨rfl, (hQj_ok 1 _ rfl), rfl, trivial, trivial, trivial, rfl, trivial⟩ rfl rfl (Nat.le_of_ble_eq_true rfl) rfl rfl (by decide) (by decide) rfl ?_
    refine wa_aastore (pc' := 37) (w' := [_, _, _, _, _, _, _, _, _, _]) dX1_init_36 rfl rfl rfl (by omega) (by omega) (by decide) rfl ?_
    refine wa_iinc (pc' := 40) (ls' := [(1, _), (0, _)]) dX1_init_37 rfl rfl (by decide) rfl ?_
    refine wa_goto (pc' := 15) dX1_init_40 (by decide) ?_
    exact k

set_option maxRecDepth 10000 in
set_option maxHeartbeats 1000000 in
theorem hi_t2 {n0 : Nat} {Post : zP → List zE → Prop} (k : Wa q_X1_init 2 33 4880 n0 Post 15 [(1, zI 3), (0, zR 0)] [] [zO 0 [zR 1, zI 0, zI 0], zQ 8 (hQj 3), zO 4 [zR 3, zR 4, zI 1, zR 5, zI 0, zI 0, zI 0], zA 1 200 (fun _ => 0), zA 0 202 (fun _ => 0), zA 0 200 (fun _ => 0), zO 4 [zR 7, zR 8, zI 1, zR 9, zI 0, zI 0, zI 0], zA 1 200 (fun _ => 0), zA 0 202 (fun _ => 0), zA 0 200 (fun _ => 0), zO 4 [zR 11, zR 12, zI 1, zR 13, zI 0, zI 0, zI 0], zA 1 200 (fun _ => 0), zA 0 202 (fun _ => 0), zA 0 200 (fun _ => 0)] 13 1835) : Wa q_X1_init 2 33 4880 n0 Post 15 [(1, zI 2), (0, zR 0)] [] [zO 0 [zR 1, zI 0, zI 0], zQ 8 (hQj 2), zO 4 [zR 3, zR 4, zI 1, zR 5, zI 0, zI 0, zI 0], zA 1 200 (fun _ => 0), zA 0 202 (fun _ => 0), zA 0 200 (fun _ => 0), zO 4 [zR 7, zR 8, zI 1, zR 9, zI 0, zI 0, zI 0], zA 1 200 (fun _ => 0), zA 0 202 (fun _ => 0), zA 0 200 (fun _ => 0)] 9 1226 := by
  refine wa_iload_n (pc' := 16) dX1_init_15 rfl rfl rfl ?_
  refine wa_aload_n (pc' := 17) dX1_init_16 rfl rfl rfl ?_
  refine wa_getfield (pc' := 20) (j := 0) zc_X1 lk_X1_11 dX1_init_17 rfl (by decide) rfl rfl ?_
  refine wa_alenQ (pc' := 21) dX1_init_20 rfl rfl ?_
  refine wa_icmp_ge (tgt := 43) (pc' := 24) dX1_init_21 (by decide) rfl (by omega) (by omega) (fun c21 => ?_) (fun c21 => ?_)
  · exact absurd c21 (by omega)
  · refine wa_aload_n (pc' := 25) dX1_init_24 rfl rfl rfl ?_
    refine wa_getfield (pc' := 28) (j := 0) zc_X1 lk_X1_11 dX1_init_25 rfl (by decide) rfl rfl ?_
    refine wa_iload_n (pc' := 29) dX1_init_28 rfl rfl rfl ?_
    refine wa_new (pc' := 32) (fs := [zN, zN, zI 0, zN, zI 0, zI 0, zI 0]) zc_X8 lcl_X1_9 dX1_init_29 rfl born_X8 rfl ⟨rfl, (hQj_ok 2 _ rfl), rfl, trivial, trivial, trivial, rfl, trivial, trivial, trivial, trivial⟩ rfl rfl rfl rfl (by decide) (by decide) rfl ?_
    show Wa _ _ _ _ _ _ _ _ (zR 10 :: _) [_, _, _, _, _, _, _, _, _, _, zO _ [_, _, _, _, _, _, _]] _ _
    refine wa_dup (pc' := 33) dX1_init_32 rfl rfl ?_
    refine wa_iVN (pc' := 36) (w2 := [_, _, _, _, _, _, _, _, _, _, zO _ [_, _, _, _, _, _, _], zA _ _ _, zA _ _ _, zA _ _ _]) k_X8_init ok_X8_init lm_X1_17 dX1_init_33 rfl [10] rfl (by decide) rfl rfl (by decide) (Nat.le_of_ble_eq_true rfl) ⟨rfl, (hQj_ok 2 _ rfl), rfl, trivial, trivial, trivial, rfl, trivial, trivial, trivial, rfl, trivial⟩ rfl rfl (Nat.le_of_ble_eq_true rfl) rfl rfl (by decide) (by decide) rfl ?_
    refine wa_aastore (pc' := 37) (w' := [_, _, _, _, _, _, _, _, _, _, _, _, _, _]) dX1_init_36 rfl rfl rfl (by omega) (by omega) (by decide) rfl ?_
    refine wa_iinc (pc' := 40) (ls' := [(1, _), (0, _)]) dX1_init_37 rfl rfl (by decide) rfl ?_
    refine wa_goto (pc' := 15) dX1_init_40 (by decide) ?_
    exact k

set_option maxRecDepth 10000 in
set_option maxHeartbeats 1000000 in
theorem hi_t3 {n0 : Nat} {Post : zP → List zE → Prop} (k : Wa q_X1_init 2 33 4880 n0 Post 15 [(1, zI 4), (0, zR 0)] [] [zO 0 [zR 1, zI 0, zI 0], zQ 8 (hQj 4), zO 4 [zR 3, zR 4, zI 1, zR 5, zI 0, zI 0, zI 0], zA 1 200 (fun _ => 0), zA 0 202 (fun _ => 0), zA 0 200 (fun _ => 0), zO 4 [zR 7, zR 8, zI 1, zR 9, zI 0, zI 0, zI 0], zA 1 200 (fun _ => 0), zA 0 202 (fun _ => 0), zA 0 200 (fun _ => 0), zO 4 [zR 11, zR 12, zI 1, zR 13, zI 0, zI 0, zI 0], zA 1 200 (fun _ => 0), zA 0 202 (fun _ => 0), zA 0 200 (fun _ => 0), zO 4 [zR 15, zR 16, zI 1, zR 17, zI 0, zI 0, zI 0], zA 1 200 (fun _ => 0), zA 0 202 (fun _ => 0), zA 0 200 (fun _ => 0)] 17 2444) : Wa q_X1_init 2 33 4880 n0 Post 15 [(1, zI 3), (0, zR 0)] [] [zO 0 [zR 1, zI 0, zI 0], zQ 8 (hQj 3), zO 4 [zR 3, zR 4, zI 1, zR 5, zI 0, zI 0, zI 0], zA 1 200 (fun _ => 0), zA 0 202 (fun _ => 0), zA 0 200 (fun _ => 0), zO 4 [zR 7, zR 8, zI 1, zR 9, zI 0, zI 0, zI 0], zA 1 200 (fun _ => 0), zA 0 202 (fun _ => 0), zA 0 200 (fun _ => 0), zO 4 [zR 11, zR 12, zI 1, zR 13, zI 0, zI 0, zI 0], zA 1 200 (fun _ => 0), zA 0 202 (fun _ => 0), zA 0 200 (fun _ => 0)] 13 1835 := by
  refine wa_iload_n (pc' := 16) dX1_init_15 rfl rfl rfl ?_
  refine wa_aload_n (pc' := 17) dX1_init_16 rfl rfl rfl ?_
  refine wa_getfield (pc' := 20) (j := 0) zc_X1 lk_X1_11 dX1_init_17 rfl (by decide) rfl rfl ?_
  refine wa_alenQ (pc' := 21) dX1_init_20 rfl rfl ?_
  refine wa_icmp_ge (tgt := 43) (pc' := 24) dX1_init_21 (by decide) rfl (by omega) (by omega) (fun c21 => ?_) (fun c21 => ?_)
  · exact absurd c21 (by omega)
  · refine wa_aload_n (pc' := 25) dX1_init_24 rfl rfl rfl ?_
    refine wa_getfield (pc' := 28) (j := 0) zc_X1 lk_X1_11 dX1_init_25 rfl (by decide) rfl rfl ?_
    refine wa_iload_n (pc' := 29) dX1_init_28 rfl rfl rfl ?_
    refine wa_new (pc' := 32) (fs := [zN, zN, zI 0, zN, zI 0, zI 0, zI 0]) zc_X8 lcl_X1_9 dX1_init_29 rfl born_X8 rfl ⟨rfl, (hQj_ok 3 _ rfl), rfl, trivial, trivial, trivial, rfl, trivial, trivial, trivial, rfl, trivial, trivial, trivial, trivial⟩ rfl rfl rfl rfl (by decide) (by decide) rfl ?_
    show Wa _ _ _ _ _ _ _ _ (zR 14 :: _) [_, _, _, _, _, _, _, _, _, _, _, _, _, _, zO _ [_, _, _, _, _, _, _]] _ _
    refine wa_dup (pc' := 33) dX1_init_32 rfl rfl ?_
    refine wa_iVN (pc' := 36) (w2 := [_, _, _, _, _, _, _, _, _, _, _, _, _, _, zO _ [_, _, _, _, _, _, _], zA _ _ _, zA _ _ _, zA _ _ _]) k_X8_init ok_X8_init lm_X1_17 dX1_init_33 rfl [14] rfl (by decide) rfl rfl (by decide) (Nat.le_of_ble_eq_true rfl) ⟨rfl, (hQj_ok 3 _ rfl), rfl, trivial, trivial, trivial, rfl, trivial, trivial, trivial, rfl, trivial, trivial, trivial, rfl, trivial⟩ rfl rfl (Nat.le_of_ble_eq_true rfl) rfl rfl (by decide) (by decide) rfl ?_
    refine wa_aastore (pc' := 37) (w' := [_, _, _, _, _, _, _, _, _, _, _, _, _, _, _, _, _, _]) dX1_init_36 rfl rfl rfl (by omega) (by omega) (by decide) rfl ?_
    refine wa_iinc (pc' := 40) (ls' := [(1, _), (0, _)]) dX1_init_37 rfl rfl (by decide) rfl ?_
    refine wa_goto (pc' := 15) dX1_init_40 (by decide) ?_
    exact k

set_option maxRecDepth 10000 in
set_option maxHeartbeats 1000000 in
theorem hi_t4 {n0 : Nat} {Post : zP → List zE → Prop} (k : Wa q_X1_init 2 33 4880 n0 Post 15 [(1, zI 5), (0, zR 0)] [] [zO 0 [zR 1, zI 0, zI 0], zQ 8 (hQj 5), zO 4 [zR 3, zR 4, zI 1, zR 5, zI 0, zI 0, zI 0], zA 1 200 (fun _ => 0), zA 0 202 (fun _ => 0), zA 0 200 (fun _ => 0), zO 4 [zR 7, zR 8, zI 1, zR 9, zI 0, zI 0, zI 0], zA 1 200 (fun _ => 0), zA 0 202 (fun _ => 0), zA 0 200 (fun _ => 0), zO 4 [zR 11, zR 12, zI 1, zR 13, zI 0, zI 0, zI 0], zA 1 200 (fun _ => 0), zA 0 202 (fun _ => 0), zA 0 200 (fun _ => 0), zO 4 [zR 15, zR 16, zI 1, zR 17, zI 0, zI 0, zI 0], zA 1 200 (fun _ => 0), zA 0 202 (fun _ => 0), zA 0 200 (fun _ => 0), zO 4 [zR 19, zR 20, zI 1, zR 21, zI 0, zI 0, zI 0], zA 1 200 (fun _ => 0), zA 0 202 (fun _ => 0), zA 0 200 (fun _ => 0)] 21 3053) : Wa q_X1_init 2 33 4880 n0 Post 15 [(1, zI 4), (0, zR 0)] [] [zO 0 [zR 1, zI 0, zI 0], zQ 8 (hQj 4), zO 4 [zR 3, zR 4, zI 1, zR 5, zI 0, zI 0, zI 0], zA 1 200 (fun _ => 0), zA 0 202 (fun _ => 0), zA 0 200 (fun _ => 0), zO 4 [zR 7, zR 8, zI 1, zR 9, zI 0, zI 0, zI 0], zA 1 200 (fun _ => 0), zA 0 202 (fun _ => 0), zA 0 200 (fun _ => 0), zO 4 [zR 11, zR 12, zI 1, zR 13, zI 0, zI 0, zI 0], zA 1 200 (fun _ => 0), zA 0 202 (fun _ => 0), zA 0 200 (fun _ => 0), zO 4 [zR 15, zR 16, zI 1, zR 17, zI 0, zI 0, zI 0], zA 1 200 (fun _ => 0), zA 0 202 (fun _ => 0), zA 0 200 (fun _ => 0)] 17 2444 := by
  refine wa_iload_n (pc' := 16) dX1_init_15 rfl rfl rfl ?_
  refine wa_aload_n (pc' := 17) dX1_init_16 rfl rfl rfl ?_
  refine wa_getfield (pc' := 20) (j := 0) zc_X1 lk_X1_11 dX1_init_17 rfl (by decide) rfl rfl ?_
  refine wa_alenQ (pc' := 21) dX1_init_20 rfl rfl ?_
  refine wa_icmp_ge (tgt := 43) (pc' := 24) dX1_init_21 (by decide) rfl (by omega) (by omega) (fun c21 => ?_) (fun c21 => ?_)
  · exact absurd c21 (by omega)
  · refine wa_aload_n (pc' := 25) dX1_init_24 rfl rfl rfl ?_
    refine wa_getfield (pc' := 28) (j := 0) zc_X1 lk_X1_11 dX1_init_25 rfl (by decide) rfl rfl ?_
    refine wa_iload_n (pc' := 29) dX1_init_28 rfl rfl rfl ?_
    refine wa_new (pc' := 32) (fs := [zN, zN, zI 0, zN, zI 0, zI 0, zI 0]) zc_X8 lcl_X1_9 dX1_init_29 rfl born_X8 rfl ⟨rfl, (hQj_ok 4 _ rfl), rfl, trivial, trivial, trivial, rfl, trivial, trivial, trivial, rfl, trivial, trivial, trivial, rfl, trivial, trivial, trivial, trivial⟩ rfl rfl rfl rfl (by decide) (by decide) rfl ?_
    show Wa _ _ _ _ _ _ _ _ (zR 18 :: _) [_, _, _, _, _, _, _, _, _, _, _, _, _, _, _, _, _, _, zO _ [_, _, _, _, _, _, _]] _ _
    refine wa_dup (pc' := 33) dX1_init_32 rfl rfl ?_
    refine wa_iVN (pc' := 36) (w2 := [_, _, _, _, _, _, _, _, _, _, _, _, _, _, _, _, _, _, zO _ [_, _, _, _, _, _, _], zA _ _ _, zA _ _ _, zA _ _ _]) k_X8_init ok_X8_init lm_X1_17 dX1_init_33 rfl [18] rfl (by decide) rfl rfl (by decide) (Nat.le_of_ble_eq_true rfl) ⟨rfl, (hQj_ok 4 _ rfl), rfl, trivial, trivial, trivial, rfl, trivial, trivial, trivial, rfl, trivial, trivial, trivial, rfl, trivial, trivial, trivial, rfl, trivial⟩ rfl rfl (Nat.le_of_ble_eq_true rfl) rfl rfl (by decide) (by decide) rfl ?_
    refine wa_aastore (pc' := 37) (w' := [_, _, _, _, _, _, _, _, _, _, _, _, _, _, _, _, _, _, _, _, _, _]) dX1_init_36 rfl rfl rfl (by omega) (by omega) (by decide) rfl ?_
    refine wa_iinc (pc' := 40) (ls' := [(1, _), (0, _)]) dX1_init_37 rfl rfl (by decide) rfl ?_
    refine wa_goto (pc' := 15) dX1_init_40 (by decide) ?_
    exact k

set_option maxRecDepth 10000 in
set_option maxHeartbeats 1000000 in
theorem hi_t5 {n0 : Nat} {Post : zP → List zE → Prop} (k : Wa q_X1_init 2 33 4880 n0 Post 15 [(1, zI 6), (0, zR 0)] [] (zO 0 [zR 1, zI 0, zI 0] :: zQ 8 (hQj 6) :: zO 4 [zR 3, zR 4, zI 1, zR 5, zI 0, zI 0, zI 0] :: zA 1 200 (fun _ => 0) :: zA 0 202 (fun _ => 0) :: zA 0 200 (fun _ => 0) :: zO 4 [zR 7, zR 8, zI 1, zR 9, zI 0, zI 0, zI 0] :: zA 1 200 (fun _ => 0) :: zA 0 202 (fun _ => 0) :: zA 0 200 (fun _ => 0) :: zO 4 [zR 11, zR 12, zI 1, zR 13, zI 0, zI 0, zI 0] :: zA 1 200 (fun _ => 0) :: zA 0 202 (fun _ => 0) :: zA 0 200 (fun _ => 0) :: zO 4 [zR 15, zR 16, zI 1, zR 17, zI 0, zI 0, zI 0] :: zA 1 200 (fun _ => 0) :: zA 0 202 (fun _ => 0) :: zA 0 200 (fun _ => 0) :: zO 4 [zR 19, zR 20, zI 1, zR 21, zI 0, zI 0, zI 0] :: zA 1 200 (fun _ => 0) :: zA 0 202 (fun _ => 0) :: zA 0 200 (fun _ => 0) :: zO 4 [zR 23, zR 24, zI 1, zR 25, zI 0, zI 0, zI 0] :: zA 1 200 (fun _ => 0) :: zA 0 202 (fun _ => 0) :: zA 0 200 (fun _ => 0) :: []) 25 3662) : Wa q_X1_init 2 33 4880 n0 Post 15 [(1, zI 5), (0, zR 0)] [] [zO 0 [zR 1, zI 0, zI 0], zQ 8 (hQj 5), zO 4 [zR 3, zR 4, zI 1, zR 5, zI 0, zI 0, zI 0], zA 1 200 (fun _ => 0), zA 0 202 (fun _ => 0), zA 0 200 (fun _ => 0), zO 4 [zR 7, zR 8, zI 1, zR 9, zI 0, zI 0, zI 0], zA 1 200 (fun _ => 0), zA 0 202 (fun _ => 0), zA 0 200 (fun _ => 0), zO 4 [zR 11, zR 12, zI 1, zR 13, zI 0, zI 0, zI 0], zA 1 200 (fun _ => 0), zA 0 202 (fun _ => 0), zA 0 200 (fun _ => 0), zO 4 [zR 15, zR 16, zI 1, zR 17, zI 0, zI 0, zI 0], zA 1 200 (fun _ => 0), zA 0 202 (fun _ => 0), zA 0 200 (fun _ => 0), zO 4 [zR 19, zR 20, zI 1, zR 21, zI 0, zI 0, zI 0], zA 1 200 (fun _ => 0), zA 0 202 (fun _ => 0), zA 0 200 (fun _ => 0)] 21 3053 := by
  refine wa_iload_n (pc' := 16) dX1_init_15 rfl rfl rfl ?_
  refine wa_aload_n (pc' := 17) dX1_init_16 rfl rfl rfl ?_
  refine wa_getfield (pc' := 20) (j := 0) zc_X1 lk_X1_11 dX1_init_17 rfl (by decide) rfl rfl ?_
  refine wa_alenQ (pc' := 21) dX1_init_20 rfl rfl ?_
  refine wa_icmp_ge (tgt := 43) (pc' := 24) dX1_init_21 (by decide) rfl (by omega) (by omega) (fun c21 => ?_) (fun c21 => ?_)
  · exact absurd c21 (by omega)
  · refine wa_aload_n (pc' := 25) dX1_init_24 rfl rfl rfl ?_
    refine wa_getfield (pc' := 28) (j := 0) zc_X1 lk_X1_11 dX1_init_25 rfl (by decide) rfl rfl ?_
    refine wa_iload_n (pc' := 29) dX1_init_28 rfl rfl rfl ?_
    refine wa_new (pc' := 32) (fs := [zN, zN, zI 0, zN, zI 0, zI 0, zI 0]) zc_X8 lcl_X1_9 dX1_init_29 rfl born_X8 rfl ⟨rfl, (hQj_ok 5 _ rfl), rfl, trivial, trivial, trivial, rfl, trivial, trivial, trivial, rfl, trivial, trivial, trivial, rfl, trivial, trivial, trivial, rfl, trivial, trivial, trivial, trivial⟩ rfl rfl rfl rfl (by decide) (by decide) rfl ?_
    show Wa _ _ _ _ _ _ _ _ (zR 22 :: _) [_, _, _, _, _, _, _, _, _, _, _, _, _, _, _, _, _, _, _, _, _, _, zO _ [_, _, _, _, _, _, _]] _ _
    refine wa_dup (pc' := 33) dX1_init_32 rfl rfl ?_
    refine wa_iVN (pc' := 36) (w2 := (_ :: _ :: _ :: _ :: _ :: _ :: _ :: _ :: _ :: _ :: _ :: _ :: _ :: _ :: _ :: _ :: _ :: _ :: _ :: _ :: _ :: _ :: zO _ [_, _, _, _, _, _, _] :: zA _ _ _ :: zA _ _ _ :: zA _ _ _ :: [])) k_X8_init ok_X8_init lm_X1_17 dX1_init_33 rfl [22] rfl (by decide) rfl rfl (by decide) (Nat.le_of_ble_eq_true rfl) ⟨rfl, (hQj_ok 5 _ rfl), rfl, trivial, trivial, trivial, rfl, trivial, trivial, trivial, rfl, trivial, trivial, trivial, rfl, trivial, trivial, trivial, rfl, trivial, trivial, trivial, rfl, trivial⟩ rfl rfl (Nat.le_of_ble_eq_true rfl) rfl rfl (by decide) (by decide) rfl ?_
    refine wa_aastore (pc' := 37) (w' := (_ :: _ :: _ :: _ :: _ :: _ :: _ :: _ :: _ :: _ :: _ :: _ :: _ :: _ :: _ :: _ :: _ :: _ :: _ :: _ :: _ :: _ :: _ :: _ :: _ :: _ :: [])) dX1_init_36 rfl rfl rfl (by omega) (by omega) (by decide) rfl ?_
    refine wa_iinc (pc' := 40) (ls' := [(1, _), (0, _)]) dX1_init_37 rfl rfl (by decide) rfl ?_
    refine wa_goto (pc' := 15) dX1_init_40 (by decide) ?_
    exact k

set_option maxRecDepth 10000 in
set_option maxHeartbeats 1000000 in
theorem hi_t6 {n0 : Nat} {Post : zP → List zE → Prop} (k : Wa q_X1_init 2 33 4880 n0 Post 15 [(1, zI 7), (0, zR 0)] [] (zO 0 [zR 1, zI 0, zI 0] :: zQ 8 (hQj 7) :: zO 4 [zR 3, zR 4, zI 1, zR 5, zI 0, zI 0, zI 0] :: zA 1 200 (fun _ => 0) :: zA 0 202 (fun _ => 0) :: zA 0 200 (fun _ => 0) :: zO 4 [zR 7, zR 8, zI 1, zR 9, zI 0, zI 0, zI 0] :: zA 1 200 (fun _ => 0) :: zA 0 202 (fun _ => 0) :: zA 0 200 (fun _ => 0) :: zO 4 [zR 11, zR 12, zI 1, zR 13, zI 0, zI 0, zI 0] :: zA 1 200 (fun _ => 0) :: zA 0 202 (fun _ => 0) :: zA 0 200 (fun _ => 0) :: zO 4 [zR 15, zR 16, zI 1, zR 17, zI 0, zI 0, zI 0] :: zA 1 200 (fun _ => 0) :: zA 0 202 (fun _ => 0) :: zA 0 200 (fun _ => 0) :: zO 4 [zR 19, zR 20, zI 1, zR 21, zI 0, zI 0, zI 0] :: zA 1 200 (fun _ => 0) :: zA 0 202 (fun _ => 0) :: zA 0 200 (fun _ => 0) :: zO 4 [zR 23, zR 24, zI 1, zR 25, zI 0, zI 0, zI 0] :: zA 1 200 (fun _ => 0) :: zA 0 202 (fun _ => 0) :: zA 0 200 (fun _ => 0) :: zO 4 [zR 27, zR 28, zI 1, zR 29, zI 0, zI 0, zI 0] :: zA 1 200 (fun _ => 0) :: zA 0 202 (fun _ => 0) :: zA 0 200 (fun _ => 0) :: []) 29 4271) : Wa q_X1_init 2 33 4880 n0 Post 15 [(1, zI 6), (0, zR 0)] [] (zO 0 [zR 1, zI 0, zI 0] :: zQ 8 (hQj 6) :: zO 4 [zR 3, zR 4, zI 1, zR 5, zI 0, zI 0, zI 0] :: zA 1 200 (fun _ => 0) :: zA 0 202 (fun _ => 0) :: zA 0 200 (fun _ => 0) :: zO 4 [zR 7, zR 8, zI 1, zR 9, zI 0, zI 0, zI 0] :: zA 1 200 (fun _ => 0) :: zA 0 202 (fun _ => 0) :: zA 0 200 (fun _ => 0) :: zO 4 [zR 11, zR 12, zI 1, zR 13, zI 0, zI 0, zI 0] :: zA 1 200 (fun _ => 0) :: zA 0 202 (fun _ => 0) :: zA 0 200 (fun _ => 0) :: zO 4 [zR 15, zR 16, zI 1, zR 17, zI 0, zI 0, zI 0] :: zA 1 200 (fun _ => 0) :: zA 0 202 (fun _ => 0) :: zA 0 200 (fun _ => 0) :: zO 4 [zR 19, zR 20, zI 1, zR 21, zI 0, zI 0, zI 0] :: zA 1 200 (fun _ => 0) :: zA 0 202 (fun _ => 0) :: zA 0 200 (fun _ => 0) :: zO 4 [zR 23, zR 24, zI 1, zR 25, zI 0, zI 0, zI 0] :: zA 1 200 (fun _ => 0) :: zA 0 202 (fun _ => 0) :: zA 0 200 (fun _ => 0) :: []) 25 3662 := by
  refine wa_iload_n (pc' := 16) dX1_init_15 rfl rfl rfl ?_
  refine wa_aload_n (pc' := 17) dX1_init_16 rfl rfl rfl ?_
  refine wa_getfield (pc' := 20) (j := 0) zc_X1 lk_X1_11 dX1_init_17 rfl (by decide) rfl rfl ?_
  refine wa_alenQ (pc' := 21) dX1_init_20 rfl rfl ?_
  refine wa_icmp_ge (tgt := 43) (pc' := 24) dX1_init_21 (by decide) rfl (by omega) (by omega) (fun c21 => ?_) (fun c21 => ?_)
  · exact absurd c21 (by omega)
  · refine wa_aload_n (pc' := 25) dX1_init_24 rfl rfl rfl ?_
    refine wa_getfield (pc' := 28) (j := 0) zc_X1 lk_X1_11 dX1_init_25 rfl (by decide) rfl rfl ?_
    refine wa_iload_n (pc' := 29) dX1_init_28 rfl rfl rfl ?_
    refine wa_new (pc' := 32) (fs := [zN, zN, zI 0, zN, zI 0, zI 0, zI 0]) zc_X8 lcl_X1_9 dX1_init_29 rfl born_X8 rfl ⟨rfl, (hQj_ok 6 _ rfl), rfl, trivial, trivial, trivial, rfl, trivial, trivial, trivial, rfl, trivial, trivial, trivial, rfl, trivial, trivial, trivial, rfl, trivial, trivial, trivial, rfl, trivial, trivial, trivial, trivial⟩ rfl rfl rfl rfl (by decide) (by decide) rfl ?_
    show Wa _ _ _ _ _ _ _ _ (zR 26 :: _) (_ :: _ :: _ :: _ :: _ :: _ :: _ :: _ :: _ :: _ :: _ :: _ :: _ :: _ :: _ :: _ :: _ :: _ :: _ :: _ :: _ :: _ :: _ :: _ :: _ :: _ :: zO _ [_, _, _, _, _, _, _] :: []) _ _
    refine wa_dup (pc' := 33) dX1_init_32 rfl rfl ?_
    refine wa_iVN (pc' := 36) (w2 := (_ :: _ :: _ :: _ :: _ :: _ :: _ :: _ :: _ :: _ :: _ :: _ :: _ :: _ :: _ :: _ :: _ :: _ :: _ :: _ :: _ :: _ :: _ :: _ :: _ :: _ :: zO _ [_, _, _, _, _, _, _] :: zA _ _ _ :: zA _ _ _ :: zA _ _ _ :: [])) k_X8_init ok_X8_init lm_X1_17 dX1_init_33 rfl [26] rfl (by decide) rfl rfl (by decide) (Nat.le_of_ble_eq_true rfl) ⟨rfl, (hQj_ok 6 _ rfl), rfl, trivial, trivial, trivial, rfl, trivial, trivial, trivial, rfl, trivial, trivial, trivial, rfl, trivial, trivial, trivial, rfl, trivial, trivial, trivial, rfl, trivial, trivial, trivial, rfl, trivial⟩ rfl rfl (Nat.le_of_ble_eq_true rfl) rfl rfl (by decide) (by decide) rfl ?_
    refine wa_aastore (pc' := 37) (w' := (_ :: _ :: _ :: _ :: _ :: _ :: _ :: _ :: _ :: _ :: _ :: _ :: _ :: _ :: _ :: _ :: _ :: _ :: _ :: _ :: _ :: _ :: _ :: _ :: _ :: _ :: _ :: _ :: _ :: _ :: [])) dX1_init_36 rfl rfl rfl (by omega) (by omega) (by decide) rfl ?_
    refine wa_iinc (pc' := 40) (ls' := [(1, _), (0, _)]) dX1_init_37 rfl rfl (by decide) rfl ?_
    refine wa_goto (pc' := 15) dX1_init_40 (by decide) ?_
    exact k

set_option maxRecDepth 10000 in
set_option maxHeartbeats 1000000 in
theorem hi_t7 {n0 : Nat} {Post : zP → List zE → Prop} (k : Wa q_X1_init 2 33 4880 n0 Post 15 [(1, zI 8), (0, zR 0)] [] (zO 0 [zR 1, zI 0, zI 0] :: zQ 8 (hQj 8) :: zO 4 [zR 3, zR 4, zI 1, zR 5, zI 0, zI 0, zI 0] :: zA 1 200 (fun _ => 0) :: zA 0 202 (fun _ => 0) :: zA 0 200 (fun _ => 0) :: zO 4 [zR 7, zR 8, zI 1, zR 9, zI 0, zI 0, zI 0] :: zA 1 200 (fun _ => 0) :: zA 0 202 (fun _ => 0) :: zA 0 200 (fun _ => 0) :: zO 4 [zR 11, zR 12, zI 1, zR 13, zI 0, zI 0, zI 0] :: zA 1 200 (fun _ => 0) :: zA 0 202 (fun _ => 0) :: zA 0 200 (fun _ => 0) :: zO 4 [zR 15, zR 16, zI 1, zR 17, zI 0, zI 0, zI 0] :: zA 1 200 (fun _ => 0) :: zA 0 202 (fun _ => 0) :: zA 0 200 (fun _ => 0) :: zO 4 [zR 19, zR 20, zI 1, zR 21, zI 0, zI 0, zI 0] :: zA 1 200 (fun _ => 0) :: zA 0 202 (fun _ => 0) :: zA 0 200 (fun _ => 0) :: zO 4 [zR 23, zR 24, zI 1, zR 25, zI 0, zI 0, zI 0] :: zA 1 200 (fun _ => 0) :: zA 0 202 (fun _ => 0) :: zA 0 200 (fun _ => 0) :: zO 4 [zR 27, zR 28, zI 1, zR 29, zI 0, zI 0, zI 0] :: zA 1 200 (fun _ => 0) :: zA 0 202 (fun _ => 0) :: zA 0 200 (fun _ => 0) :: zO 4 [zR 31, zR 32, zI 1, zR 33, zI 0, zI 0, zI 0] :: zA 1 200 (fun _ => 0) :: zA 0 202 (fun _ => 0) :: zA 0 200 (fun _ => 0) :: []) 33 4880) : Wa q_X1_init 2 33 4880 n0 Post 15 [(1, zI 7), (0, zR 0)] [] (zO 0 [zR 1, zI 0, zI 0] :: zQ 8 (hQj 7) :: zO 4 [zR 3, zR 4, zI 1, zR 5, zI 0, zI 0, zI 0] :: zA 1 200 (fun _ => 0) :: zA 0 202 (fun _ => 0) :: zA 0 200 (fun _ => 0) :: zO 4 [zR 7, zR 8, zI 1, zR 9, zI 0, zI 0, zI 0] :: zA 1 200 (fun _ => 0) :: zA 0 202 (fun _ => 0) :: zA 0 200 (fun _ => 0) :: zO 4 [zR 11, zR 12, zI 1, zR 13, zI 0, zI 0, zI 0] :: zA 1 200 (fun _ => 0) :: zA 0 202 (fun _ => 0) :: zA 0 200 (fun _ => 0) :: zO 4 [zR 15, zR 16, zI 1, zR 17, zI 0, zI 0, zI 0] :: zA 1 200 (fun _ => 0) :: zA 0 202 (fun _ => 0) :: zA 0 200 (fun _ => 0) :: zO 4 [zR 19, zR 20, zI 1, zR 21, zI 0, zI 0, zI 0] :: zA 1 200 (fun _ => 0) :: zA 0 202 (fun _ => 0) :: zA 0 200 (fun _ => 0) :: zO 4 [zR 23, zR 24, zI 1, zR 25, zI 0, zI 0, zI 0] :: zA 1 200 (fun _ => 0) :: zA 0 202 (fun _ => 0) :: zA 0 200 (fun _ => 0) :: zO 4 [zR 27, zR 28, zI 1, zR 29, zI 0, zI 0, zI 0] :: zA 1 200 (fun _ => 0) :: zA 0 202 (fun _ => 0) :: zA 0 200 (fun _ => 0) :: []) 29 4271 := by
  refine wa_iload_n (pc' := 16) dX1_init_15 rfl rfl rfl ?_
  refine wa_aload_n (pc' := 17) dX1_init_16 rfl rfl rfl ?_
  refine wa_getfield (pc' := 20) (j := 0) zc_X1 lk_X1_11 dX1_init_17 rfl (by decide) rfl rfl ?_
  refine wa_alenQ (pc' := 21) dX1_init_20 rfl rfl ?_
  refine wa_icmp_ge (tgt := 43) (pc' := 24) dX1_init_21 (by decide) rfl (by omega) (by omega) (fun c21 => ?_) (fun c21 => ?_)
  · exact absurd c21 (by omega)
  · refine wa_aload_n (pc' := 25) dX1_init_24 rfl rfl rfl ?_
    refine wa_getfield (pc' := 28) (j := 0) zc_X1 lk_X1_11 dX1_init_25 rfl (by decide) rfl rfl ?_
    refine wa_iload_n (pc' := 29) dX1_init_28 rfl rfl rfl ?_
    refine wa_new (pc' := 32) (fs := [zN, zN, zI 0, zN, zI 0, zI 0, zI 0]) zc_X8 lcl_X1_9 dX1_init_29 rfl born_X8 rfl ⟨rfl, (hQj_ok 7 _ rfl), rfl, trivial, trivial, trivial, rfl, trivial, trivial, trivial, rfl, trivial, trivial, trivial, rfl, trivial, trivial, trivial, rfl, trivial, trivial, trivial, rfl, trivial, trivial, trivial, rfl, trivial, trivial, trivial, trivial⟩ rfl rfl rfl rfl (by decide) (by decide) rfl ?_
    show Wa _ _ _ _ _ _ _ _ (zR 30 :: _) (_ :: _ :: _ :: _ :: _ :: _ :: _ :: _ :: _ :: _ :: _ :: _ :: _ :: _ :: _ :: _ :: _ :: _ :: _ :: _ :: _ :: _ :: _ :: _ :: _ :: _ :: _ :: _ :: _ :: _ :: zO _ [_, _, _, _, _, _, _] :: []) _ _
    refine wa_dup (pc' := 33) dX1_init_32 rfl rfl ?_
    refine wa_iVN (pc' := 36) (w2 := (_ :: _ :: _ :: _ :: _ :: _ :: _ :: _ :: _ :: _ :: _ :: _ :: _ :: _ :: _ :: _ :: _ :: _ :: _ :: _ :: _ :: _ :: _ :: _ :: _ :: _ :: _ :: _ :: _ :: _ :: zO _ [_, _, _, _, _, _, _] :: zA _ _ _ :: zA _ _ _ :: zA _ _ _ :: [])) k_X8_init ok_X8_init lm_X1_17 dX1_init_33 rfl [30] rfl (by decide) rfl rfl (by decide) (Nat.le_of_ble_eq_true rfl) ⟨rfl, (hQj_ok 7 _ rfl), rfl, trivial, trivial, trivial, rfl, trivial, trivial, trivial, rfl, trivial, trivial, trivial, rfl, trivial, trivial, trivial, rfl, trivial, trivial, trivial, rfl, trivial, trivial, trivial, rfl, trivial, trivial, trivial, rfl, trivial⟩ rfl rfl (Nat.le_of_ble_eq_true rfl) rfl rfl (by decide) (by decide) rfl ?_
    refine wa_aastore (pc' := 37) (w' := (_ :: _ :: _ :: _ :: _ :: _ :: _ :: _ :: _ :: _ :: _ :: _ :: _ :: _ :: _ :: _ :: _ :: _ :: _ :: _ :: _ :: _ :: _ :: _ :: _ :: _ :: _ :: _ :: _ :: _ :: _ :: _ :: _ :: _ :: [])) dX1_init_36 rfl rfl rfl (by omega) (by omega) (by decide) rfl ?_
    refine wa_iinc (pc' := 40) (ls' := [(1, _), (0, _)]) dX1_init_37 rfl rfl (by decide) rfl ?_
    refine wa_goto (pc' := 15) dX1_init_40 (by decide) ?_
    exact k

set_option maxRecDepth 10000 in
set_option maxHeartbeats 1000000 in
theorem k_X1_init  : zMet q_X1_init 2 33 4880 [zR 0] [zO 0 [zN, zI 0, zI 0]] (zD none (wHi hS0 0 0)) := by
  refine z_introF (ls := [(0, _)]) (by decide +kernel) rfl (fun _ _ => rfl) (fun _ _ => Nat.le_of_ble_eq_true rfl) ?_
  refine wa_aload_n (pc' := 1) dX1_init_0 rfl rfl rfl ?_
  refine wa_objI (pc' := 4) lo_X1 dX1_init_1 rfl (by decide) (Nat.le_of_ble_eq_true rfl) ?_
  refine wa_aload_n (pc' := 5) dX1_init_4 rfl rfl rfl ?_
  refine wa_bipush (pc' := 7) dX1_init_5 rfl rfl ?_
  refine wa_anew (pc' := 10) (n := 8) lcl_X1_9 dX1_init_7 rfl rfl (by decide) ⟨rfl, trivial⟩ rfl rfl rfl rfl (by decide) (by decide) rfl ?_
  show Wa _ _ _ _ _ _ _ _ (zR 1 :: _) [_, _] _ _
  refine wa_putfieldF (pc' := 13) (j := 0) (w' := [zO _ [_, _, _], _]) zc_X1 lk_X1_11 dX1_init_10 rfl (by decide) rfl rfl rfl rfl (Nat.le_of_ble_eq_true rfl) True.intro rfl ?_
  refine wa_iconst (pc' := 14) dX1_init_13 rfl ?_
  refine wa_istore_n (pc' := 15) (ls' := [(1, _), (0, _)]) dX1_init_14 rfl rfl (by decide) rfl ?_
  refine hi_t0 ?_
  refine hi_t1 ?_
  refine hi_t2 ?_
  refine hi_t3 ?_
  refine hi_t4 ?_
  refine hi_t5 ?_
  refine hi_t6 ?_
  refine hi_t7 ?_
  refine wa_iload_n (pc' := 16) dX1_init_15 rfl rfl rfl ?_
  refine wa_aload_n (pc' := 17) dX1_init_16 rfl rfl rfl ?_
  refine wa_getfield (pc' := 20) (j := 0) zc_X1 lk_X1_11 dX1_init_17 rfl (by decide) rfl rfl ?_
  refine wa_alenQ (pc' := 21) dX1_init_20 rfl rfl ?_
  refine wa_icmp_ge (tgt := 43) (pc' := 24) dX1_init_21 (by decide) rfl (by omega) (by omega) (fun c21 => ?_) (fun c21 => ?_)
  · refine wa_vret dX1_init_43 rfl (by decide) (by decide) ?_
    exact zD_i rfl (congrArg (fun q => (zO 0 [zR 1, zI 0, zI 0] :: zQ 8 q :: zO 4 [zR 3, zR 4, zI 1, zR 5, zI 0, zI 0, zI 0] :: zA 1 200 (fun _ => 0) :: zA 0 202 (fun _ => 0) :: zA 0 200 (fun _ => 0) :: zO 4 [zR 7, zR 8, zI 1, zR 9, zI 0, zI 0, zI 0] :: zA 1 200 (fun _ => 0) :: zA 0 202 (fun _ => 0) :: zA 0 200 (fun _ => 0) :: zO 4 [zR 11, zR 12, zI 1, zR 13, zI 0, zI 0, zI 0] :: zA 1 200 (fun _ => 0) :: zA 0 202 (fun _ => 0) :: zA 0 200 (fun _ => 0) :: zO 4 [zR 15, zR 16, zI 1, zR 17, zI 0, zI 0, zI 0] :: zA 1 200 (fun _ => 0) :: zA 0 202 (fun _ => 0) :: zA 0 200 (fun _ => 0) :: zO 4 [zR 19, zR 20, zI 1, zR 21, zI 0, zI 0, zI 0] :: zA 1 200 (fun _ => 0) :: zA 0 202 (fun _ => 0) :: zA 0 200 (fun _ => 0) :: zO 4 [zR 23, zR 24, zI 1, zR 25, zI 0, zI 0, zI 0] :: zA 1 200 (fun _ => 0) :: zA 0 202 (fun _ => 0) :: zA 0 200 (fun _ => 0) :: zO 4 [zR 27, zR 28, zI 1, zR 29, zI 0, zI 0, zI 0] :: zA 1 200 (fun _ => 0) :: zA 0 202 (fun _ => 0) :: zA 0 200 (fun _ => 0) :: zO 4 [zR 31, zR 32, zI 1, zR 33, zI 0, zI 0, zI 0] :: zA 1 200 (fun _ => 0) :: zA 0 202 (fun _ => 0) :: zA 0 200 (fun _ => 0) :: [])) hQ8)
  · exact absurd c21 (by omega)

/-! the constructor of the class -/
def hQC : Nat → Option Nat := fun j => (hQ0 j).map fun k => ((13 :: 14 :: 15 :: 16 :: 17 :: 18 :: 19 :: 20 :: 21 :: 22 :: 23 :: 24 :: 25 :: 26 :: 27 :: 28 :: 29 :: 30 :: 31 :: 32 :: 33 :: 34 :: 35 :: 36 :: 37 :: 38 :: 39 :: 40 :: 41 :: 42 :: 43 :: 44 :: 45 :: 46 :: []) : List Nat).getD k 0
theorem hQC_ok (m : Nat) (hm : Nat.ble 47 m = true) : ∀ j k, hQC j = some k → k < m := by
  have hm := Nat.le_of_ble_eq_true hm
  intro j k h
  obtain ⟨a, h1, h2⟩ := Option.map_eq_some_iff.mp h
  unfold hQ0 at h1
  (repeat' split at h1) <;> first | (cases h1; rw [← h2]; exact Nat.lt_of_le_of_lt (by decide : _ ≤ 46) (by omega)) | exact nomatch h1
abbrev wC (t nm : zRw) (s D : zSh) (H : Nat → zSh) (ol ct : Int) (k : zKd) (y : zLy) (si fl wi : Int) : List zE := (zO 5 [zR 1, zR 3, zR 5, zR 9, zR 13, zR 47, zR 48, zI si, zI fl, zI wi] :: zO 3 [zR 2, zI t.1] :: zA 1 680 t.2 :: zO 3 [zR 4, zI nm.1] :: zA 1 680 nm.2 :: zO 4 [zR 6, zR 7, zI s.2.2.2.1, zR 8, zI s.2.2.2.2.1, zI s.2.2.2.2.2.1, zI s.2.2.2.2.2.2] :: zA 1 200 s.1 :: zA 0 202 s.2.1 :: zA 0 200 s.2.2.1 :: zO 4 [zR 10, zR 11, zI D.2.2.2.1, zR 12, zI D.2.2.2.2.1, zI D.2.2.2.2.2.1, zI D.2.2.2.2.2.2] :: zA 1 200 D.1 :: zA 0 202 D.2.1 :: zA 0 200 D.2.2.1 :: zO 0 [zR 14, zI ol, zI ct] :: zQ 8 hQC :: zO 4 [zR 16, zR 17, zI (H 0).2.2.2.1, zR 18, zI (H 0).2.2.2.2.1, zI (H 0).2.2.2.2.2.1, zI (H 0).2.2.2.2.2.2] :: zA 1 200 (H 0).1 :: zA 0 202 (H 0).2.1 :: zA 0 200 (H 0).2.2.1 :: zO 4 [zR 20, zR 21, zI (H 1).2.2.2.1, zR 22, zI (H 1).2.2.2.2.1, zI (H 1).2.2.2.2.2.1, zI (H 1).2.2.2.2.2.2] :: zA 1 200 (H 1).1 :: zA 0 202 (H 1).2.1 :: zA 0 200 (H 1).2.2.1 :: zO 4 [zR 24, zR 25, zI (H 2).2.2.2.1, zR 26, zI (H 2).2.2.2.2.1, zI (H 2).2.2.2.2.2.1, zI (H 2).2.2.2.2.2.2] :: zA 1 200 (H 2).1 :: zA 0 202 (H 2).2.1 :: zA 0 200 (H 2).2.2.1 :: zO 4 [zR 28, zR 29, zI (H 3).2.2.2.1, zR 30, zI (H 3).2.2.2.2.1, zI (H 3).2.2.2.2.2.1, zI (H 3).2.2.2.2.2.2] :: zA 1 200 (H 3).1 :: zA 0 202 (H 3).2.1 :: zA 0 200 (H 3).2.2.1 :: zO 4 [zR 32, zR 33, zI (H 4).2.2.2.1, zR 34, zI (H 4).2.2.2.2.1, zI (H 4).2.2.2.2.2.1, zI (H 4).2.2.2.2.2.2] :: zA 1 200 (H 4).1 :: zA 0 202 (H 4).2.1 :: zA 0 200 (H 4).2.2.1 :: zO 4 [zR 36, zR 37, zI (H 5).2.2.2.1, zR 38, zI (H 5).2.2.2.2.1, zI (H 5).2.2.2.2.2.1, zI (H 5).2.2.2.2.2.2] :: zA 1 200 (H 5).1 :: zA 0 202 (H 5).2.1 :: zA 0 200 (H 5).2.2.1 :: zO 4 [zR 40, zR 41, zI (H 6).2.2.2.1, zR 42, zI (H 6).2.2.2.2.1, zI (H 6).2.2.2.2.2.1, zI (H 6).2.2.2.2.2.2] :: zA 1 200 (H 6).1 :: zA 0 202 (H 6).2.1 :: zA 0 200 (H 6).2.2.1 :: zO 4 [zR 44, zR 45, zI (H 7).2.2.2.1, zR 46, zI (H 7).2.2.2.2.1, zI (H 7).2.2.2.2.2.1, zI (H 7).2.2.2.2.2.2] :: zA 1 200 (H 7).1 :: zA 0 202 (H 7).2.1 :: zA 0 200 (H 7).2.2.1 :: zO 2 [zR 1, zI k.1, zI k.2.1, zI k.2.2.1, zI k.2.2.2.1, zI k.2.2.2.2] :: zO 1 [zR 5, zR 49, zR 51, zI y.2.2.1, zI y.2.2.2.1, zI y.2.2.2.2.1, zI y.2.2.2.2.2.1, zI y.2.2.2.2.2.2.1, zI y.2.2.2.2.2.2.2.1, zI y.2.2.2.2.2.2.2.2.1, zI y.2.2.2.2.2.2.2.2.2] :: zO 3 [zR 50, zI y.1.1] :: zA 1 680 y.1.2 :: zO 3 [zR 52, zI y.2.1.1] :: zA 1 680 y.2.1.2 :: [])
abbrev zr0 : zRw := (0, fun _ => 0)
abbrev zs0 : zSh := (fun _ => 0, fun _ => 0, fun _ => 0, 1, 0, 0, 0)
set_option maxRecDepth 10000 in
set_option maxHeartbeats 1000000 in
theorem k_X9_init  : zMet q_X9_init 3 52 9000 [zR 0] [zO 5 [zN, zN, zN, zN, zN, zN, zN, zI 0, zI 0, zI 0]] (zD none (wC zr0 zr0 zs0 zs0 hS0 0 0 (0, 0, 0, 0, 0) (zr0, zr0, 0, 0, 0, 0, 0, 0, 0, 0) 1 0 200)) := by
  refine z_introF (ls := [(0, _)]) (by decide +kernel) rfl (fun _ _ => rfl) (fun _ _ => Nat.le_of_ble_eq_true rfl) ?_
  refine wa_aload_n (pc' := 1) dX9_init_0 rfl rfl rfl ?_
  refine wa_objI (pc' := 4) lo_X9 dX9_init_1 rfl (by decide) (Nat.le_of_ble_eq_true rfl) ?_
  refine wa_aload_n (pc' := 5) dX9_init_4 rfl rfl rfl ?_
  refine wa_new (pc' := 8) (fs := [zN, zI 0]) zc_X7 lcl_X9_7 dX9_init_5 rfl born_X7 rfl ⟨rfl, trivial⟩ rfl rfl rfl rfl (by decide) (by decide) rfl ?_
  show Wa _ _ _ _ _ _ _ _ _ [zO 5 [zN, zN, zN, zN, zN, zN, zN, zI 0, zI 0, zI 0], zO 3 [zN, zI 0]] _ _
  refine wa_dup (pc' := 9) dX9_init_8 rfl rfl ?_
  refine wa_iVN (pc' := 12) (w2 := [_, zO _ [_, _], zA _ _ _]) k_X7_init ok_X7_init lm_X9_9 dX9_init_9 rfl [1] rfl (by decide) rfl rfl (by decide) (Nat.le_of_ble_eq_true rfl) ⟨rfl, rfl, trivial⟩ rfl rfl (Nat.le_of_ble_eq_true rfl) rfl rfl (by decide) (by decide) rfl ?_
  show Wa _ _ _ _ _ _ _ _ _ [zO 5 [zN, zN, zN, zN, zN, zN, zN, zI 0, zI 0, zI 0], zO 3 [zR 2, zI 0], zA 1 680 (fun _ => 0)] _ _
  refine wa_putfieldF (pc' := 15) (j := 0) (w' := [zO _ [_, _, _, _, _, _, _, _, _, _], _, _]) zc_X9 lk_X9_10 dX9_init_12 rfl (by decide) rfl rfl rfl rfl (Nat.le_of_ble_eq_true rfl) True.intro rfl ?_
  refine wa_aload_n (pc' := 16) dX9_init_15 rfl rfl rfl ?_
  refine wa_new (pc' := 19) (fs := [zN, zI 0]) zc_X7 lcl_X9_7 dX9_init_16 rfl born_X7 rfl ⟨rfl, rfl, trivial, trivial⟩ rfl rfl rfl rfl (by decide) (by decide) rfl ?_
  show Wa _ _ _ _ _ _ _ _ _ [zO 5 [zR 1, zN, zN, zN, zN, zN, zN, zI 0, zI 0, zI 0], zO 3 [zR 2, zI 0], zA 1 680 (fun _ => 0), zO 3 [zN, zI 0]] _ _
  refine wa_dup (pc' := 20) dX9_init_19 rfl rfl ?_
  refine wa_iVN (pc' := 23) (w2 := [_, _, _, zO _ [_, _], zA _ _ _]) k_X7_init ok_X7_init lm_X9_9 dX9_init_20 rfl [3] rfl (by decide) rfl rfl (by decide) (Nat.le_of_ble_eq_true rfl) ⟨rfl, rfl, trivial, rfl, trivial⟩ rfl rfl (Nat.le_of_ble_eq_true rfl) rfl rfl (by decide) (by decide) rfl ?_
  show Wa _ _ _ _ _ _ _ _ _ [zO 5 [zR 1, zN, zN, zN, zN, zN, zN, zI 0, zI 0, zI 0], zO 3 [zR 2, zI 0], zA 1 680 (fun _ => 0), zO 3 [zR 4, zI 0], zA 1 680 (fun _ => 0)] _ _
  refine wa_putfieldF (pc' := 26) (j := 1) (w' := [zO _ [_, _, _, _, _, _, _, _, _, _], _, _, _, _]) zc_X9 lk_X9_16 dX9_init_23 rfl (by decide) rfl rfl rfl rfl (Nat.le_of_ble_eq_true rfl) True.intro rfl ?_
  refine wa_aload_n (pc' := 27) dX9_init_26 rfl rfl rfl ?_
  refine wa_new (pc' := 30) (fs := [zN, zN, zI 0, zN, zI 0, zI 0, zI 0]) zc_X8 lcl_X9_19 dX9_init_27 rfl born_X8 rfl ⟨rfl, rfl, trivial, rfl, trivial, trivial⟩ rfl rfl rfl rfl (by decide) (by decide) rfl ?_
  show Wa _ _ _ _ _ _ _ _ _ [zO 5 [zR 1, zR 3, zN, zN, zN, zN, zN, zI 0, zI 0, zI 0], zO 3 [zR 2, zI 0], zA 1 680 (fun _ => 0), zO 3 [zR 4, zI 0], zA 1 680 (fun _ => 0), zO 4 [zN, zN, zI 0, zN, zI 0, zI 0, zI 0]] _ _
  refine wa_dup (pc' := 31) dX9_init_30 rfl rfl ?_
  refine wa_iVN (pc' := 34) (w2 := [_, _, _, _, _, zO _ [_, _, _, _, _, _, _], zA _ _ _, zA _ _ _, zA _ _ _]) k_X8_init ok_X8_init lm_X9_21 dX9_init_31 rfl [5] rfl (by decide) rfl rfl (by decide) (Nat.le_of_ble_eq_true rfl) ⟨rfl, rfl, trivial, rfl, trivial, rfl, trivial⟩ rfl rfl (Nat.le_of_ble_eq_true rfl) rfl rfl (by decide) (by decide) rfl ?_
  show Wa _ _ _ _ _ _ _ _ _ [zO 5 [zR 1, zR 3, zN, zN, zN, zN, zN, zI 0, zI 0, zI 0], zO 3 [zR 2, zI 0], zA 1 680 (fun _ => 0), zO 3 [zR 4, zI 0], zA 1 680 (fun _ => 0), zO 4 [zR 6, zR 7, zI 1, zR 8, zI 0, zI 0, zI 0], zA 1 200 (fun _ => 0), zA 0 202 (fun _ => 0), zA 0 200 (fun _ => 0)] _ _
  refine wa_putfieldF (pc' := 37) (j := 2) (w' := [zO _ [_, _, _, _, _, _, _, _, _, _], _, _, _, _, _, _, _, _]) zc_X9 lk_X9_22 dX9_init_34 rfl (by decide) rfl rfl rfl rfl (Nat.le_of_ble_eq_true rfl) True.intro rfl ?_
  refine wa_aload_n (pc' := 38) dX9_init_37 rfl rfl rfl ?_
  refine wa_new (pc' := 41) (fs := [zN, zN, zI 0, zN, zI 0, zI 0, zI 0]) zc_X8 lcl_X9_19 dX9_init_38 rfl born_X8 rfl ⟨rfl, rfl, trivial, rfl, trivial, rfl, trivial, trivial, trivial, trivial⟩ rfl rfl rfl rfl (by decide) (by decide) rfl ?_
  show Wa _ _ _ _ _ _ _ _ _ [zO 5 [zR 1, zR 3, zR 5, zN, zN, zN, zN, zI 0, zI 0, zI 0], zO 3 [zR 2, zI 0], zA 1 680 (fun _ => 0), zO 3 [zR 4, zI 0], zA 1 680 (fun _ => 0), zO 4 [zR 6, zR 7, zI 1, zR 8, zI 0, zI 0, zI 0], zA 1 200 (fun _ => 0), zA 0 202 (fun _ => 0), zA 0 200 (fun _ => 0), zO 4 [zN, zN, zI 0, zN, zI 0, zI 0, zI 0]] _ _
  refine wa_dup (pc' := 42) dX9_init_41 rfl rfl ?_
  refine wa_iVN (pc' := 45) (w2 := [_, _, _, _, _, _, _, _, _, zO _ [_, _, _, _, _, _, _], zA _ _ _, zA _ _ _, zA _ _ _]) k_X8_init ok_X8_init lm_X9_21 dX9_init_42 rfl [9] rfl (by decide) rfl rfl (by decide) (Nat.le_of_ble_eq_true rfl) ⟨rfl, rfl, trivial, rfl, trivial, rfl, trivial, trivial, trivial, rfl, trivial⟩ rfl rfl (Nat.le_of_ble_eq_true rfl) rfl rfl (by decide) (by decide) rfl ?_
  show Wa _ _ _ _ _ _ _ _ _ [zO 5 [zR 1, zR 3, zR 5, zN, zN, zN, zN, zI 0, zI 0, zI 0], zO 3 [zR 2, zI 0], zA 1 680 (fun _ => 0), zO 3 [zR 4, zI 0], zA 1 680 (fun _ => 0), zO 4 [zR 6, zR 7, zI 1, zR 8, zI 0, zI 0, zI 0], zA 1 200 (fun _ => 0), zA 0 202 (fun _ => 0), zA 0 200 (fun _ => 0), zO 4 [zR 10, zR 11, zI 1, zR 12, zI 0, zI 0, zI 0], zA 1 200 (fun _ => 0), zA 0 202 (fun _ => 0), zA 0 200 (fun _ => 0)] _ _
  refine wa_putfieldF (pc' := 48) (j := 3) (w' := [zO _ [_, _, _, _, _, _, _, _, _, _], _, _, _, _, _, _, _, _, _, _, _, _]) zc_X9 lk_X9_26 dX9_init_45 rfl (by decide) rfl rfl rfl rfl (Nat.le_of_ble_eq_true rfl) True.intro rfl ?_
  refine wa_aload_n (pc' := 49) dX9_init_48 rfl rfl rfl ?_
  refine wa_new (pc' := 52) (fs := [zN, zI 0, zI 0]) zc_X1 lcl_X9_29 dX9_init_49 rfl born_X1 rfl ⟨rfl, rfl, trivial, rfl, trivial, rfl, trivial, trivial, trivial, rfl, trivial, trivial, trivial, trivial⟩ rfl rfl rfl rfl (by decide) (by decide) rfl ?_
  show Wa _ _ _ _ _ _ _ _ _ [zO 5 [zR 1, zR 3, zR 5, zR 9, zN, zN, zN, zI 0, zI 0, zI 0], zO 3 [zR 2, zI 0], zA 1 680 (fun _ => 0), zO 3 [zR 4, zI 0], zA 1 680 (fun _ => 0), zO 4 [zR 6, zR 7, zI 1, zR 8, zI 0, zI 0, zI 0], zA 1 200 (fun _ => 0), zA 0 202 (fun _ => 0), zA 0 200 (fun _ => 0), zO 4 [zR 10, zR 11, zI 1, zR 12, zI 0, zI 0, zI 0], zA 1 200 (fun _ => 0), zA 0 202 (fun _ => 0), zA 0 200 (fun _ => 0), zO 0 [zN, zI 0, zI 0]] _ _
  refine wa_dup (pc' := 53) dX9_init_52 rfl rfl ?_
  refine wa_iV (pc' := 56) (w2 := (_ :: _ :: _ :: _ :: _ :: _ :: _ :: _ :: _ :: _ :: _ :: _ :: _ :: zO _ [_, _, _] :: _ :: zO _ [_, _, _, _, _, _, _] :: zA _ _ _ :: zA _ _ _ :: zA _ _ _ :: zO _ [_, _, _, _, _, _, _] :: zA _ _ _ :: zA _ _ _ :: zA _ _ _ :: zO _ [_, _, _, _, _, _, _] :: zA _ _ _ :: zA _ _ _ :: zA _ _ _ :: zO _ [_, _, _, _, _, _, _] :: zA _ _ _ :: zA _ _ _ :: zA _ _ _ :: zO _ [_, _, _, _, _, _, _] :: zA _ _ _ :: zA _ _ _ :: zA _ _ _ :: zO _ [_, _, _, _, _, _, _] :: zA _ _ _ :: zA _ _ _ :: zA _ _ _ :: zO _ [_, _, _, _, _, _, _] :: zA _ _ _ :: zA _ _ _ :: zA _ _ _ :: zO _ [_, _, _, _, _, _, _] :: zA _ _ _ :: zA _ _ _ :: zA _ _ _ :: [])) k_X1_init ok_X1_init lm_X9_31 dX9_init_53 rfl [13] rfl (by decide) rfl rfl (by decide) (Nat.le_of_ble_eq_true rfl) ⟨rfl, rfl, trivial, rfl, trivial, rfl, trivial, trivial, trivial, rfl, trivial, trivial, trivial, rfl, trivial⟩ rfl rfl (Nat.le_of_ble_eq_true rfl) rfl rfl (by decide) (by decide) rfl ?_
  show Wa _ _ _ _ _ _ _ _ _ (zO 5 [zR 1, zR 3, zR 5, zR 9, zN, zN, zN, zI 0, zI 0, zI 0] :: zO 3 [zR 2, zI 0] :: zA 1 680 (fun _ => 0) :: zO 3 [zR 4, zI 0] :: zA 1 680 (fun _ => 0) :: zO 4 [zR 6, zR 7, zI 1, zR 8, zI 0, zI 0, zI 0] :: zA 1 200 (fun _ => 0) :: zA 0 202 (fun _ => 0) :: zA 0 200 (fun _ => 0) :: zO 4 [zR 10, zR 11, zI 1, zR 12, zI 0, zI 0, zI 0] :: zA 1 200 (fun _ => 0) :: zA 0 202 (fun _ => 0) :: zA 0 200 (fun _ => 0) :: zO 0 [zR 14, zI 0, zI 0] :: zQ 8 hQC :: zO 4 [zR 16, zR 17, zI 1, zR 18, zI 0, zI 0, zI 0] :: zA 1 200 (fun _ => 0) :: zA 0 202 (fun _ => 0) :: zA 0 200 (fun _ => 0) :: zO 4 [zR 20, zR 21, zI 1, zR 22, zI 0, zI 0, zI 0] :: zA 1 200 (fun _ => 0) :: zA 0 202 (fun _ => 0) :: zA 0 200 (fun _ => 0) :: zO 4 [zR 24, zR 25, zI 1, zR 26, zI 0, zI 0, zI 0] :: zA 1 200 (fun _ => 0) :: zA 0 202 (fun _ => 0) :: zA 0 200 (fun _ => 0) :: zO 4 [zR 28, zR 29, zI 1, zR 30, zI 0, zI 0, zI 0] :: zA 1 200 (fun _ => 0) :: zA 0 202 (fun _ => 0) :: zA 0 200 (fun _ => 0) :: zO 4 [zR 32, zR 33, zI 1, zR 34, zI 0, zI 0, zI 0] :: zA 1 200 (fun _ => 0) :: zA 0 202 (fun _ => 0) :: zA 0 200 (fun _ => 0) :: zO 4 [zR 36, zR 37, zI 1, zR 38, zI 0, zI 0, zI 0] :: zA 1 200 (fun _ => 0) :: zA 0 202 (fun _ => 0) :: zA 0 200 (fun _ => 0) :: zO 4 [zR 40, zR 41, zI 1, zR 42, zI 0, zI 0, zI 0] :: zA 1 200 (fun _ => 0) :: zA 0 202 (fun _ => 0) :: zA 0 200 (fun _ => 0) :: zO 4 [zR 44, zR 45, zI 1, zR 46, zI 0, zI 0, zI 0] :: zA 1 200 (fun _ => 0) :: zA 0 202 (fun _ => 0) :: zA 0 200 (fun _ => 0) :: []) _ _
  refine wa_putfieldF (pc' := 59) (j := 4) (w' := (zO _ [_, _, _, _, _, _, _, _, _, _] :: _ :: _ :: _ :: _ :: _ :: _ :: _ :: _ :: _ :: _ :: _ :: _ :: _ :: _ :: _ :: _ :: _ :: _ :: _ :: _ :: _ :: _ :: _ :: _ :: _ :: _ :: _ :: _ :: _ :: _ :: _ :: _ :: _ :: _ :: _ :: _ :: _ :: _ :: _ :: _ :: _ :: _ :: _ :: _ :: _ :: _ :: [])) zc_X9 lk_X9_32 dX9_init_56 rfl (by decide) rfl rfl rfl rfl (Nat.le_of_ble_eq_true rfl) True.intro rfl ?_
  refine wa_aload_n (pc' := 60) dX9_init_59 rfl rfl rfl ?_
  refine wa_new (pc' := 63) (fs := [zN, zI 0, zI 0, zI 0, zI 0, zI 0]) zc_X6 lcl_X9_36 dX9_init_60 rfl born_X6 rfl ⟨rfl, rfl, trivial, rfl, trivial, rfl, trivial, trivial, trivial, rfl, trivial, trivial, trivial, rfl, (hQC_ok _ rfl), rfl, trivial, trivial, trivial, rfl, trivial, trivial, trivial, rfl, trivial, trivial, trivial, rfl, trivial, trivial, trivial, rfl, trivial, trivial, trivial, rfl, trivial, trivial, trivial, rfl, trivial, trivial, trivial, rfl, trivial, trivial, trivial, trivial⟩ rfl rfl rfl rfl (by decide) (by decide) rfl ?_
  show Wa _ _ _ _ _ _ _ _ _ (zO 5 [zR 1, zR 3, zR 5, zR 9, zR 13, zN, zN, zI 0, zI 0, zI 0] :: zO 3 [zR 2, zI 0] :: zA 1 680 (fun _ => 0) :: zO 3 [zR 4, zI 0] :: zA 1 680 (fun _ => 0) :: zO 4 [zR 6, zR 7, zI 1, zR 8, zI 0, zI 0, zI 0] :: zA 1 200 (fun _ => 0) :: zA 0 202 (fun _ => 0) :: zA 0 200 (fun _ => 0) :: zO 4 [zR 10, zR 11, zI 1, zR 12, zI 0, zI 0, zI 0] :: zA 1 200 (fun _ => 0) :: zA 0 202 (fun _ => 0) :: zA 0 200 (fun _ => 0) :: zO 0 [zR 14, zI 0, zI 0] :: zQ 8 hQC :: zO 4 [zR 16, zR 17, zI 1, zR 18, zI 0, zI 0, zI 0] :: zA 1 200 (fun _ => 0) :: zA 0 202 (fun _ => 0) :: zA 0 200 (fun _ => 0) :: zO 4 [zR 20, zR 21, zI 1, zR 22, zI 0, zI 0, zI 0] :: zA 1 200 (fun _ => 0) :: zA 0 202 (fun _ => 0) :: zA 0 200 (fun _ => 0) :: zO 4 [zR 24, zR 25, zI 1, zR 26, zI 0, zI 0, zI 0] :: zA 1 200 (fun _ => 0) :: zA 0 202 (fun _ => 0) :: zA 0 200 (fun _ => 0) :: zO 4 [zR 28, zR 29, zI 1, zR 30, zI 0, zI 0, zI 0] :: zA 1 200 (fun _ => 0) :: zA 0 202 (fun _ => 0) :: zA 0 200 (fun _ => 0) :: zO 4 [zR 32, zR 33, zI 1, zR 34, zI 0, zI 0, zI 0] :: zA 1 200 (fun _ => 0) :: zA 0 202 (fun _ => 0) :: zA 0 200 (fun _ => 0) :: zO 4 [zR 36, zR 37, zI 1, zR 38, zI 0, zI 0, zI 0] :: zA 1 200 (fun _ => 0) :: zA 0 202 (fun _ => 0) :: zA 0 200 (fun _ => 0) :: zO 4 [zR 40, zR 41, zI 1, zR 42, zI 0, zI 0, zI 0] :: zA 1 200 (fun _ => 0) :: zA 0 202 (fun _ => 0) :: zA 0 200 (fun _ => 0) :: zO 4 [zR 44, zR 45, zI 1, zR 46, zI 0, zI 0, zI 0] :: zA 1 200 (fun _ => 0) :: zA 0 202 (fun _ => 0) :: zA 0 200 (fun _ => 0) :: zO 2 [zN, zI 0, zI 0, zI 0, zI 0, zI 0] :: []) _ _
  refine wa_dup (pc' := 64) dX9_init_63 rfl rfl ?_
  refine wa_aload_n (pc' := 65) dX9_init_64 rfl rfl rfl ?_
  refine wa_getfield (pc' := 68) (j := 0) zc_X9 lk_X9_10 dX9_init_65 rfl (by decide) rfl rfl ?_
  refine wa_iV (pc' := 71) (w2 := (_ :: zO _ [_, _] :: zA _ _ _ :: _ :: _ :: _ :: _ :: _ :: _ :: _ :: _ :: _ :: _ :: _ :: _ :: _ :: _ :: _ :: _ :: _ :: _ :: _ :: _ :: _ :: _ :: _ :: _ :: _ :: _ :: _ :: _ :: _ :: _ :: _ :: _ :: _ :: _ :: _ :: _ :: _ :: _ :: _ :: _ :: _ :: _ :: _ :: _ :: zO _ [_, _, _, _, _, _] :: [])) (k_X6_init zr0) ok_X6_init lm_X9_38 dX9_init_68 rfl [47, 1, 2] rfl (by decide) rfl rfl (by decide) (Nat.le_of_ble_eq_true rfl) ⟨rfl, rfl, trivial, rfl, trivial, rfl, trivial, trivial, trivial, rfl, trivial, trivial, trivial, rfl, (hQC_ok _ rfl), rfl, trivial, trivial, trivial, rfl, trivial, trivial, trivial, rfl, trivial, trivial, trivial, rfl, trivial, trivial, trivial, rfl, trivial, trivial, trivial, rfl, trivial, trivial, trivial, rfl, trivial, trivial, trivial, rfl, trivial, trivial, trivial, rfl, trivial⟩ rfl rfl (Nat.le_of_ble_eq_true rfl) rfl rfl (by decide) (by decide) rfl ?_
  show Wa _ _ _ _ _ _ _ _ _ (zO 5 [zR 1, zR 3, zR 5, zR 9, zR 13, zN, zN, zI 0, zI 0, zI 0] :: zO 3 [zR 2, zI 0] :: zA 1 680 (fun _ => 0) :: zO 3 [zR 4, zI 0] :: zA 1 680 (fun _ => 0) :: zO 4 [zR 6, zR 7, zI 1, zR 8, zI 0, zI 0, zI 0] :: zA 1 200 (fun _ => 0) :: zA 0 202 (fun _ => 0) :: zA 0 200 (fun _ => 0) :: zO 4 [zR 10, zR 11, zI 1, zR 12, zI 0, zI 0, zI 0] :: zA 1 200 (fun _ => 0) :: zA 0 202 (fun _ => 0) :: zA 0 200 (fun _ => 0) :: zO 0 [zR 14, zI 0, zI 0] :: zQ 8 hQC :: zO 4 [zR 16, zR 17, zI 1, zR 18, zI 0, zI 0, zI 0] :: zA 1 200 (fun _ => 0) :: zA 0 202 (fun _ => 0) :: zA 0 200 (fun _ => 0) :: zO 4 [zR 20, zR 21, zI 1, zR 22, zI 0, zI 0, zI 0] :: zA 1 200 (fun _ => 0) :: zA 0 202 (fun _ => 0) :: zA 0 200 (fun _ => 0) :: zO 4 [zR 24, zR 25, zI 1, zR 26, zI 0, zI 0, zI 0] :: zA 1 200 (fun _ => 0) :: zA 0 202 (fun _ => 0) :: zA 0 200 (fun _ => 0) :: zO 4 [zR 28, zR 29, zI 1, zR 30, zI 0, zI 0, zI 0] :: zA 1 200 (fun _ => 0) :: zA 0 202 (fun _ => 0) :: zA 0 200 (fun _ => 0) :: zO 4 [zR 32, zR 33, zI 1, zR 34, zI 0, zI 0, zI 0] :: zA 1 200 (fun _ => 0) :: zA 0 202 (fun _ => 0) :: zA 0 200 (fun _ => 0) :: zO 4 [zR 36, zR 37, zI 1, zR 38, zI 0, zI 0, zI 0] :: zA 1 200 (fun _ => 0) :: zA 0 202 (fun _ => 0) :: zA 0 200 (fun _ => 0) :: zO 4 [zR 40, zR 41, zI 1, zR 42, zI 0, zI 0, zI 0] :: zA 1 200 (fun _ => 0) :: zA 0 202 (fun _ => 0) :: zA 0 200 (fun _ => 0) :: zO 4 [zR 44, zR 45, zI 1, zR 46, zI 0, zI 0, zI 0] :: zA 1 200 (fun _ => 0) :: zA 0 202 (fun _ => 0) :: zA 0 200 (fun _ => 0) :: zO 2 [zR 1, zI 0, zI 0, zI 0, zI 0, zI 0] :: []) _ _
  refine wa_putfieldF (pc' := 74) (j := 5) (w' := (zO _ [_, _, _, _, _, _, _, _, _, _] :: _ :: _ :: _ :: _ :: _ :: _ :: _ :: _ :: _ :: _ :: _ :: _ :: _ :: _ :: _ :: _ :: _ :: _ :: _ :: _ :: _ :: _ :: _ :: _ :: _ :: _ :: _ :: _ :: _ :: _ :: _ :: _ :: _ :: _ :: _ :: _ :: _ :: _ :: _ :: _ :: _ :: _ :: _ :: _ :: _ :: _ :: _ :: [])) zc_X9 lk_X9_41 dX9_init_71 rfl (by decide) rfl rfl rfl rfl (Nat.le_of_ble_eq_true rfl) True.intro rfl ?_
  refine wa_aload_n (pc' := 75) dX9_init_74 rfl rfl rfl ?_
  refine wa_new (pc' := 78) (fs := [zN, zN, zN, zI 0, zI 0, zI 0, zI 0, zI 0, zI 0, zI 0, zI 0]) zc_X3 lcl_X9_45 dX9_init_75 rfl born_X3 rfl ⟨rfl, rfl, trivial, rfl, trivial, rfl, trivial, trivial, trivial, rfl, trivial, trivial, trivial, rfl, (hQC_ok _ rfl), rfl, trivial, trivial, trivial, rfl, trivial, trivial, trivial, rfl, trivial, trivial, trivial, rfl, trivial, trivial, trivial, rfl, trivial, trivial, trivial, rfl, trivial, trivial, trivial, rfl, trivial, trivial, trivial, rfl, trivial, trivial, trivial, rfl, trivial⟩ rfl rfl rfl rfl (by decide) (by decide) rfl ?_
  show Wa _ _ _ _ _ _ _ _ _ (zO 5 [zR 1, zR 3, zR 5, zR 9, zR 13, zR 47, zN, zI 0, zI 0, zI 0] :: zO 3 [zR 2, zI 0] :: zA 1 680 (fun _ => 0) :: zO 3 [zR 4, zI 0] :: zA 1 680 (fun _ => 0) :: zO 4 [zR 6, zR 7, zI 1, zR 8, zI 0, zI 0, zI 0] :: zA 1 200 (fun _ => 0) :: zA 0 202 (fun _ => 0) :: zA 0 200 (fun _ => 0) :: zO 4 [zR 10, zR 11, zI 1, zR 12, zI 0, zI 0, zI 0] :: zA 1 200 (fun _ => 0) :: zA 0 202 (fun _ => 0) :: zA 0 200 (fun _ => 0) :: zO 0 [zR 14, zI 0, zI 0] :: zQ 8 hQC :: zO 4 [zR 16, zR 17, zI 1, zR 18, zI 0, zI 0, zI 0] :: zA 1 200 (fun _ => 0) :: zA 0 202 (fun _ => 0) :: zA 0 200 (fun _ => 0) :: zO 4 [zR 20, zR 21, zI 1, zR 22, zI 0, zI 0, zI 0] :: zA 1 200 (fun _ => 0) :: zA 0 202 (fun _ => 0) :: zA 0 200 (fun _ => 0) :: zO 4 [zR 24, zR 25, zI 1, zR 26, zI 0, zI 0, zI 0] :: zA 1 200 (fun _ => 0) :: zA 0 202 (fun _ => 0) :: zA 0 200 (fun _ => 0) :: zO 4 [zR 28, zR 29, zI 1, zR 30, zI 0, zI 0, zI 0] :: zA 1 200 (fun _ => 0) :: zA 0 202 (fun _ => 0) :: zA 0 200 (fun _ => 0) :: zO 4 [zR 32, zR 33, zI 1, zR 34, zI 0, zI 0, zI 0] :: zA 1 200 (fun _ => 0) :: zA 0 202 (fun _ => 0) :: zA 0 200 (fun _ => 0) :: zO 4 [zR 36, zR 37, zI 1, zR 38, zI 0, zI 0, zI 0] :: zA 1 200 (fun _ => 0) :: zA 0 202 (fun _ => 0) :: zA 0 200 (fun _ => 0) :: zO 4 [zR 40, zR 41, zI 1, zR 42, zI 0, zI 0, zI 0] :: zA 1 200 (fun _ => 0) :: zA 0 202 (fun _ => 0) :: zA 0 200 (fun _ => 0) :: zO 4 [zR 44, zR 45, zI 1, zR 46, zI 0, zI 0, zI 0] :: zA 1 200 (fun _ => 0) :: zA 0 202 (fun _ => 0) :: zA 0 200 (fun _ => 0) :: zO 2 [zR 1, zI 0, zI 0, zI 0, zI 0, zI 0] :: zO 1 [zN, zN, zN, zI 0, zI 0, zI 0, zI 0, zI 0, zI 0, zI 0, zI 0] :: []) _ _
  refine wa_dup (pc' := 79) dX9_init_78 rfl rfl ?_
  refine wa_aload_n (pc' := 80) dX9_init_79 rfl rfl rfl ?_
  refine wa_getfield (pc' := 83) (j := 2) zc_X9 lk_X9_22 dX9_init_80 rfl (by decide) rfl rfl ?_
  refine wa_iV (pc' := 86) (w2 := (_ :: _ :: _ :: _ :: _ :: zO _ [_, _, _, _, _, _, _] :: zA _ _ _ :: zA _ _ _ :: zA _ _ _ :: _ :: _ :: _ :: _ :: _ :: _ :: _ :: _ :: _ :: _ :: _ :: _ :: _ :: _ :: _ :: _ :: _ :: _ :: _ :: _ :: _ :: _ :: _ :: _ :: _ :: _ :: _ :: _ :: _ :: _ :: _ :: _ :: _ :: _ :: _ :: _ :: _ :: _ :: _ :: zO _ [_, _, _, _, _, _, _, _, _, _, _] :: zO _ [_, _] :: zA _ _ _ :: zO _ [_, _] :: zA _ _ _ :: [])) (k_X3_init zs0) ok_X3_init lm_X9_47 dX9_init_83 rfl [48, 5, 6, 7, 8] rfl (by decide) rfl rfl (by decide) (Nat.le_of_ble_eq_true rfl) ⟨rfl, rfl, trivial, rfl, trivial, rfl, trivial, trivial, trivial, rfl, trivial, trivial, trivial, rfl, (hQC_ok _ rfl), rfl, trivial, trivial, trivial, rfl, trivial, trivial, trivial, rfl, trivial, trivial, trivial, rfl, trivial, trivial, trivial, rfl, trivial, trivial, trivial, rfl, trivial, trivial, trivial, rfl, trivial, trivial, trivial, rfl, trivial, trivial, trivial, rfl, rfl, trivial⟩ rfl rfl (Nat.le_of_ble_eq_true rfl) rfl rfl (by decide) (by decide) rfl ?_
  show Wa _ _ _ _ _ _ _ _ _ (zO 5 [zR 1, zR 3, zR 5, zR 9, zR 13, zR 47, zN, zI 0, zI 0, zI 0] :: zO 3 [zR 2, zI 0] :: zA 1 680 (fun _ => 0) :: zO 3 [zR 4, zI 0] :: zA 1 680 (fun _ => 0) :: zO 4 [zR 6, zR 7, zI 1, zR 8, zI 0, zI 0, zI 0] :: zA 1 200 (fun _ => 0) :: zA 0 202 (fun _ => 0) :: zA 0 200 (fun _ => 0) :: zO 4 [zR 10, zR 11, zI 1, zR 12, zI 0, zI 0, zI 0] :: zA 1 200 (fun _ => 0) :: zA 0 202 (fun _ => 0) :: zA 0 200 (fun _ => 0) :: zO 0 [zR 14, zI 0, zI 0] :: zQ 8 hQC :: zO 4 [zR 16, zR 17, zI 1, zR 18, zI 0, zI 0, zI 0] :: zA 1 200 (fun _ => 0) :: zA 0 202 (fun _ => 0) :: zA 0 200 (fun _ => 0) :: zO 4 [zR 20, zR 21, zI 1, zR 22, zI 0, zI 0, zI 0] :: zA 1 200 (fun _ => 0) :: zA 0 202 (fun _ => 0) :: zA 0 200 (fun _ => 0) :: zO 4 [zR 24, zR 25, zI 1, zR 26, zI 0, zI 0, zI 0] :: zA 1 200 (fun _ => 0) :: zA 0 202 (fun _ => 0) :: zA 0 200 (fun _ => 0) :: zO 4 [zR 28, zR 29, zI 1, zR 30, zI 0, zI 0, zI 0] :: zA 1 200 (fun _ => 0) :: zA 0 202 (fun _ => 0) :: zA 0 200 (fun _ => 0) :: zO 4 [zR 32, zR 33, zI 1, zR 34, zI 0, zI 0, zI 0] :: zA 1 200 (fun _ => 0) :: zA 0 202 (fun _ => 0) :: zA 0 200 (fun _ => 0) :: zO 4 [zR 36, zR 37, zI 1, zR 38, zI 0, zI 0, zI 0] :: zA 1 200 (fun _ => 0) :: zA 0 202 (fun _ => 0) :: zA 0 200 (fun _ => 0) :: zO 4 [zR 40, zR 41, zI 1, zR 42, zI 0, zI 0, zI 0] :: zA 1 200 (fun _ => 0) :: zA 0 202 (fun _ => 0) :: zA 0 200 (fun _ => 0) :: zO 4 [zR 44, zR 45, zI 1, zR 46, zI 0, zI 0, zI 0] :: zA 1 200 (fun _ => 0) :: zA 0 202 (fun _ => 0) :: zA 0 200 (fun _ => 0) :: zO 2 [zR 1, zI 0, zI 0, zI 0, zI 0, zI 0] :: zO 1 [zR 5, zR 49, zR 51, zI 0, zI 0, zI 0, zI 0, zI 0, zI 0, zI 0, zI 0] :: zO 3 [zR 50, zI 0] :: zA 1 680 (fun _ => 0) :: zO 3 [zR 52, zI 0] :: zA 1 680 (fun _ => 0) :: []) _ _
  refine wa_putfieldF (pc' := 89) (j := 6) (w' := (zO _ [_, _, _, _, _, _, _, _, _, _] :: _ :: _ :: _ :: _ :: _ :: _ :: _ :: _ :: _ :: _ :: _ :: _ :: _ :: _ :: _ :: _ :: _ :: _ :: _ :: _ :: _ :: _ :: _ :: _ :: _ :: _ :: _ :: _ :: _ :: _ :: _ :: _ :: _ :: _ :: _ :: _ :: _ :: _ :: _ :: _ :: _ :: _ :: _ :: _ :: _ :: _ :: _ :: _ :: _ :: _ :: _ :: _ :: [])) zc_X9 lk_X9_50 dX9_init_86 rfl (by decide) rfl rfl rfl rfl (Nat.le_of_ble_eq_true rfl) True.intro rfl ?_
  refine wa_aload_n (pc' := 90) dX9_init_89 rfl rfl rfl ?_
  refine wa_iconst (pc' := 91) dX9_init_90 rfl ?_
  refine wa_putfield (pc' := 94) (j := 7) (w' := (zO _ [_, _, _, _, _, _, _, _, _, _] :: _ :: _ :: _ :: _ :: _ :: _ :: _ :: _ :: _ :: _ :: _ :: _ :: _ :: _ :: _ :: _ :: _ :: _ :: _ :: _ :: _ :: _ :: _ :: _ :: _ :: _ :: _ :: _ :: _ :: _ :: _ :: _ :: _ :: _ :: _ :: _ :: _ :: _ :: _ :: _ :: _ :: _ :: _ :: _ :: _ :: _ :: _ :: _ :: _ :: _ :: _ :: _ :: [])) zc_X9 lk_X9_54 dX9_init_91 rfl (by decide) rfl rfl (Nat.le_of_ble_eq_true rfl) (by show _ ∨ _; omega) rfl ?_
  refine wa_aload_n (pc' := 95) dX9_init_94 rfl rfl rfl ?_
  refine wa_iconst (pc' := 96) dX9_init_95 rfl ?_
  refine wa_putfield (pc' := 99) (j := 8) (w' := (zO _ [_, _, _, _, _, _, _, _, _, _] :: _ :: _ :: _ :: _ :: _ :: _ :: _ :: _ :: _ :: _ :: _ :: _ :: _ :: _ :: _ :: _ :: _ :: _ :: _ :: _ :: _ :: _ :: _ :: _ :: _ :: _ :: _ :: _ :: _ :: _ :: _ :: _ :: _ :: _ :: _ :: _ :: _ :: _ :: _ :: _ :: _ :: _ :: _ :: _ :: _ :: _ :: _ :: _ :: _ :: _ :: _ :: _ :: [])) zc_X9 lk_X9_58 dX9_init_96 rfl (by decide) rfl rfl (Nat.le_of_ble_eq_true rfl) (by show _ ∨ _; omega) rfl ?_
  refine wa_aload_n (pc' := 100) dX9_init_99 rfl rfl rfl ?_
  refine wa_sipush (pc' := 103) dX9_init_100 rfl rfl ?_
  refine wa_putfield (pc' := 106) (j := 9) (w' := (zO _ [_, _, _, _, _, _, _, _, _, _] :: _ :: _ :: _ :: _ :: _ :: _ :: _ :: _ :: _ :: _ :: _ :: _ :: _ :: _ :: _ :: _ :: _ :: _ :: _ :: _ :: _ :: _ :: _ :: _ :: _ :: _ :: _ :: _ :: _ :: _ :: _ :: _ :: _ :: _ :: _ :: _ :: _ :: _ :: _ :: _ :: _ :: _ :: _ :: _ :: _ :: _ :: _ :: _ :: _ :: _ :: _ :: _ :: [])) zc_X9 lk_X9_61 dX9_init_103 rfl (by decide) rfl rfl (Nat.le_of_ble_eq_true rfl) True.intro rfl ?_
  refine wa_vret dX9_init_106 rfl (by decide) (by decide) ?_
  exact zD_i rfl rfl

