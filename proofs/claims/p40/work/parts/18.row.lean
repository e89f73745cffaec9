/-! Row: a length and a function; what is laid behind it is a list -/
abbrev zRw : Type := Int × (Int → Int)
def rA (r : zRw) (c : Int) : zRw := (r.1 + 1, zup r.2 r.1 c)
def rL (r : zRw) (l : List Int) : zRw := l.foldl rA r
abbrev wRow (r : zRw) : List zE := [zO 3 [zR 1, zI r.1], zA 1 680 r.2]
theorem drop_getD (l : List Int) (i : Nat) (h : i < l.length) : l.drop i = l.getD i 0 :: l.drop (i + 1) := by
  rw [List.drop_eq_getElem_cons h, List.getD_eq_getElem?_getD, List.getElem?_eq_getElem h]
  rfl
theorem rL_len (r : zRw) (l : List Int) : (rL r l).1 = r.1 + l.length := by
  induction l generalizing r with
  | nil => simp [rL]
  | cons c l ih =>
    show (rL (rA r c) l).1 = _
    rw [ih]
    simp only [rA, List.length_cons]
    omega
theorem rL_app (r : zRw) (l m : List Int) : rL r (l ++ m) = rL (rL r l) m := by simp [rL, List.foldl_append]
theorem rL_lo (r : zRw) (l : List Int) (j : Int) (h : j < r.1) : (rL r l).2 j = r.2 j := by
  induction l generalizing r with
  | nil => rfl
  | cons c l ih =>
    show (rL (rA r c) l).2 j = _
    rw [ih (rA r c) (by simp only [rA]; omega)]
    exact zup_ne _ _ (by omega)
theorem rL_hi (r : zRw) (l : List Int) (k : Nat) (h : k < l.length) : (rL r l).2 (r.1 + k) = l.getD k 0 := by
  induction l generalizing r k with
  | nil => simp at h
  | cons c l ih =>
    show (rL (rA r c) l).2 _ = _
    cases k with
    | zero =>
      rw [rL_lo _ _ _ (by simp only [rA]; omega)]
      simp [rA, zup]
    | succ k =>
      have h2 := ih (rA r c) k (by simpa using h)
      rw [show r.1 + ((k + 1 : Nat) : Int) = (rA r c).1 + k by simp only [rA]; omega, h2]
      simp
set_option maxRecDepth 10000 in
set_option maxHeartbeats 1000000 in
theorem k_X7_size (r : zRw) : zMet q_X7_size 0 0 0 [zR 0] (wRow r) (zD (some (zI r.1)) (wRow r)) := by
  refine z_introF (ls := [(0, _)]) (by decide +kernel) rfl (fun _ _ => rfl) (fun _ _ => Nat.le_of_ble_eq_true rfl) ?_
  refine wa_aload_n (pc' := 1) dX7_size_0 rfl rfl rfl ?_
  refine wa_getfield (pc' := 4) (j := 1) zc_X7 lk_X7_15 dX7_size_1 rfl (by decide) rfl rfl ?_
  refine wa_iret dX7_size_4 rfl (by decide) (by decide) ?_
  exact ⟨rfl, rfl⟩

set_option maxRecDepth 10000 in
set_option maxHeartbeats 1000000 in
theorem k_X7_at (r : zRw) (h0 : 0 ≤ r.1) (h1 : r.1 ≤ 680) (k : Int) (hk : zin k) : zMet q_X7_at 0 0 0 [zR 0, zI k] (wRow r) (zD (some (zI (if 0 ≤ k ∧ k < r.1 then r.2 k else -1))) (wRow r)) := by
  refine z_introF (ls := [(0, _), (1, _)]) (by decide +kernel) rfl (fun _ _ => rfl) (fun _ _ => Nat.le_of_ble_eq_true rfl) ?_
  refine wa_iload_n (pc' := 1) dX7_at_0 rfl rfl rfl ?_
  refine wa_if_lt (tgt := 30) (pc' := 4) dX7_at_1 (by decide) rfl (by omega) (fun c1 => ?_) (fun c1 => ?_)
  · refine wa_iconst (pc' := 31) dX7_at_30 rfl ?_
    refine wa_iret dX7_at_31 rfl (by decide) (by decide) ?_
    exact zD_i (by first | rw [if_pos (by omega)] | rw [if_neg (by omega)]) rfl
  · refine wa_iload_n (pc' := 5) dX7_at_4 rfl rfl rfl ?_
    refine wa_aload_n (pc' := 6) dX7_at_5 rfl rfl rfl ?_
    refine wa_getfield (pc' := 9) (j := 1) zc_X7 lk_X7_15 dX7_at_6 rfl (by decide) rfl rfl ?_
    refine wa_icmp_ge (tgt := 30) (pc' := 12) dX7_at_9 (by decide) rfl (by omega) (by omega) (fun c9 => ?_) (fun c9 => ?_)
    · refine wa_iconst (pc' := 31) dX7_at_30 rfl ?_
      refine wa_iret dX7_at_31 rfl (by decide) (by decide) ?_
      exact zD_i (by first | rw [if_pos (by omega)] | rw [if_neg (by omega)]) rfl
    · refine wa_iload_n (pc' := 13) dX7_at_12 rfl rfl rfl ?_
      refine wa_aload_n (pc' := 14) dX7_at_13 rfl rfl rfl ?_
      refine wa_getfield (pc' := 17) (j := 0) zc_X7 lk_X7_11 dX7_at_14 rfl (by decide) rfl rfl ?_
      refine wa_alen (pc' := 18) dX7_at_17 rfl rfl (by decide) ?_
      refine wa_icmp_ge (tgt := 30) (pc' := 21) dX7_at_18 (by decide) rfl (by omega) (by omega) (fun c18 => ?_) (fun c18 => ?_)
      · exact absurd c18 (by omega)
      · refine wa_aload_n (pc' := 22) dX7_at_21 rfl rfl rfl ?_
        refine wa_getfield (pc' := 25) (j := 0) zc_X7 lk_X7_11 dX7_at_22 rfl (by decide) rfl rfl ?_
        refine wa_iload_n (pc' := 26) dX7_at_25 rfl rfl rfl ?_
        refine wa_caload (pc' := 27) dX7_at_26 rfl rfl (by omega) (by omega) (by decide) ?_
        refine wa_goto (pc' := 31) dX7_at_27 (by decide) ?_
        refine wa_iret dX7_at_31 rfl (by decide) (by decide) ?_
        exact zD_i (by first | rw [if_pos (by omega)] | rw [if_neg (by omega)]) rfl

set_option maxRecDepth 10000 in
set_option maxHeartbeats 1000000 in
theorem k_X7_add (r : zRw) (h0 : 0 ≤ r.1) (h1 : r.1 < 680) (c : Int) (hc : 0 ≤ c ∧ c < 65536) : zMet q_X7_add 0 0 0 [zR 0, zI c] (wRow r) (zD none (wRow (rA r c))) := by
  refine z_introF (ls := [(0, _), (1, _)]) (by decide +kernel) rfl (fun _ _ => rfl) (fun _ _ => Nat.le_of_ble_eq_true rfl) ?_
  refine wa_aload_n (pc' := 1) dX7_add_0 rfl rfl rfl ?_
  refine wa_getfield (pc' := 4) (j := 1) zc_X7 lk_X7_15 dX7_add_1 rfl (by decide) rfl rfl ?_
  refine wa_if_lt (tgt := 39) (pc' := 7) dX7_add_4 (by decide) rfl (by omega) (fun c4 => ?_) (fun c4 => ?_)
  · exact absurd c4 (by omega)
  · refine wa_aload_n (pc' := 8) dX7_add_7 rfl rfl rfl ?_
    refine wa_getfield (pc' := 11) (j := 1) zc_X7 lk_X7_15 dX7_add_8 rfl (by decide) rfl rfl ?_
    refine wa_aload_n (pc' := 12) dX7_add_11 rfl rfl rfl ?_
    refine wa_getfield (pc' := 15) (j := 0) zc_X7 lk_X7_11 dX7_add_12 rfl (by decide) rfl rfl ?_
    refine wa_alen (pc' := 16) dX7_add_15 rfl rfl (by decide) ?_
    refine wa_icmp_ge (tgt := 39) (pc' := 19) dX7_add_16 (by decide) rfl (by omega) (by omega) (fun c16 => ?_) (fun c16 => ?_)
    · exact absurd c16 (by omega)
    · refine wa_aload_n (pc' := 20) dX7_add_19 rfl rfl rfl ?_
      refine wa_getfield (pc' := 23) (j := 0) zc_X7 lk_X7_11 dX7_add_20 rfl (by decide) rfl rfl ?_
      refine wa_aload_n (pc' := 24) dX7_add_23 rfl rfl rfl ?_
      refine wa_getfield (pc' := 27) (j := 1) zc_X7 lk_X7_15 dX7_add_24 rfl (by decide) rfl rfl ?_
      refine wa_iload_n (pc' := 28) dX7_add_27 rfl rfl rfl ?_
      refine wa_castore (pc' := 29) (w' := [_, zA _ _ _]) dX7_add_28 rfl rfl (by omega) (by omega) (by decide) (by omega) (by omega) rfl ?_
      refine wa_aload_n (pc' := 30) dX7_add_29 rfl rfl rfl ?_
      refine wa_dup (pc' := 31) dX7_add_30 rfl rfl ?_
      refine wa_getfield (pc' := 34) (j := 1) zc_X7 lk_X7_15 dX7_add_31 rfl (by decide) rfl rfl ?_
      refine wa_iconst (pc' := 35) dX7_add_34 rfl ?_
      refine wa_iadd (pc' := 36) dX7_add_35 rfl ?_
      refine wa_putfield (pc' := 39) (j := 1) (w' := [zO _ [_, _], _]) zc_X7 lk_X7_15 dX7_add_36 rfl (by decide) rfl rfl (Nat.le_of_ble_eq_true rfl) True.intro rfl ?_
      refine wa_vret dX7_add_39 rfl (by decide) (by decide) ?_
      exact ⟨rfl, rfl⟩

set_option maxRecDepth 10000 in
set_option maxHeartbeats 1000000 in
theorem k_X7_cutTo (r : zRw) (h0 : 0 ≤ r.1) (h1 : r.1 ≤ 680) (k : Int) (hk : zin k) : zMet q_X7_cutTo 0 0 0 [zR 0, zI k] (wRow r) (zD none (wRow (if 0 ≤ k ∧ k < r.1 then k else r.1, r.2))) := by
  refine z_introF (ls := [(0, _), (1, _)]) (by decide +kernel) rfl (fun _ _ => rfl) (fun _ _ => Nat.le_of_ble_eq_true rfl) ?_
  refine wa_iload_n (pc' := 1) dX7_cutTo_0 rfl rfl rfl ?_
  refine wa_if_lt (tgt := 17) (pc' := 4) dX7_cutTo_1 (by decide) rfl (by omega) (fun c1 => ?_) (fun c1 => ?_)
  · refine wa_vret dX7_cutTo_17 rfl (by decide) (by decide) ?_
    exact zD_i rfl (by first | rw [if_pos (by omega)] | rw [if_neg (by omega)])
  · refine wa_iload_n (pc' := 5) dX7_cutTo_4 rfl rfl rfl ?_
    refine wa_aload_n (pc' := 6) dX7_cutTo_5 rfl rfl rfl ?_
    refine wa_getfield (pc' := 9) (j := 1) zc_X7 lk_X7_15 dX7_cutTo_6 rfl (by decide) rfl rfl ?_
    refine wa_icmp_ge (tgt := 17) (pc' := 12) dX7_cutTo_9 (by decide) rfl (by omega) (by omega) (fun c9 => ?_) (fun c9 => ?_)
    · refine wa_vret dX7_cutTo_17 rfl (by decide) (by decide) ?_
      exact zD_i rfl (by first | rw [if_pos (by omega)] | rw [if_neg (by omega)])
    · refine wa_aload_n (pc' := 13) dX7_cutTo_12 rfl rfl rfl ?_
      refine wa_iload_n (pc' := 14) dX7_cutTo_13 rfl rfl rfl ?_
      refine wa_putfield (pc' := 17) (j := 1) (w' := [zO _ [_, _], _]) zc_X7 lk_X7_15 dX7_cutTo_14 rfl (by decide) rfl rfl (Nat.le_of_ble_eq_true rfl) True.intro rfl ?_
      refine wa_vret dX7_cutTo_17 rfl (by decide) (by decide) ?_
      exact zD_i rfl (by first | rw [if_pos (by omega)] | rw [if_neg (by omega)])

set_option maxRecDepth 10000 in
set_option maxHeartbeats 1000000 in
theorem l_fillTo (n c : Int) (hn : n ≤ 680) (hnz : zin n) (hc : 0 ≤ c ∧ c < 65536) : ∀ (m : Nat) (r : zRw), 0 ≤ r.1 ∧ r.1 ≤ 680 → (n - r.1).toNat = m → Wa q_X7_fillTo 1 0 0 2 (zD none (wRow (rL r (List.replicate m c)))) 5 [(3, zI r.1), (0, zR 0), (1, zI n), (2, zI c)] [] (wRow r) 0 0 := by
  intro m
  induction m with
  | zero =>
    intro r h0 hm
    refine wa_iload_n (pc' := 6) dX7_fillTo_5 rfl rfl rfl ?_
    refine wa_iload_n (pc' := 7) dX7_fillTo_6 rfl rfl rfl ?_
    refine wa_icmp_ge (tgt := 21) (pc' := 10) dX7_fillTo_7 (by decide) rfl (by omega) (by omega) (fun c7 => ?_) (fun c7 => ?_)
    · refine wa_vret dX7_fillTo_21 rfl (by decide) (by decide) ?_
      exact ⟨rfl, rfl⟩
    · exact absurd c7 (by omega)
  | succ m ih =>
    intro r h0 hm
    refine wa_iload_n (pc' := 6) dX7_fillTo_5 rfl rfl rfl ?_
    refine wa_iload_n (pc' := 7) dX7_fillTo_6 rfl rfl rfl ?_
    refine wa_icmp_ge (tgt := 21) (pc' := 10) dX7_fillTo_7 (by decide) rfl (by omega) (by omega) (fun c7 => ?_) (fun c7 => ?_)
    · exact absurd c7 (by omega)
    · refine wa_aload_n (pc' := 11) dX7_fillTo_10 rfl rfl rfl ?_
      refine wa_iload_n (pc' := 12) dX7_fillTo_11 rfl rfl rfl ?_
      refine wa_dV (pc' := 15) (w' := [zO _ [_, _], zA _ _ _]) (k_X7_add r (by omega) (by omega) c (by omega)) ok_X7_add lm_X7_29 dX7_fillTo_12 rfl [0, 1] rfl (by decide) rfl rfl rfl rfl rfl (by decide) (Nat.le_of_ble_eq_true rfl) rfl (by decide) (by decide) rfl rfl rfl ?_
      refine wa_iinc (pc' := 18) (ls' := [(3, _), (0, _), (1, _), (2, _)]) dX7_fillTo_15 rfl rfl (by decide) rfl ?_
      refine wa_goto (pc' := 5) dX7_fillTo_18 (by decide) ?_
      exact ih (rA r c) ⟨by simp only [rA]; omega, by simp only [rA]; omega⟩ (by simp only [rA]; omega)

set_option maxRecDepth 10000 in
set_option maxHeartbeats 1000000 in
theorem k_X7_fillTo (r : zRw) (h0 : 0 ≤ r.1) (h1 : r.1 ≤ 680) (n c : Int) (hn : n ≤ 680) (hnz : zin n) (hc : 0 ≤ c ∧ c < 65536) : zMet q_X7_fillTo 1 0 0 [zR 0, zI n, zI c] (wRow r) (zD none (wRow (rL r (List.replicate (n - r.1).toNat c)))) := by
  refine z_introF (ls := [(0, _), (1, _), (2, _)]) (by decide +kernel) rfl (fun _ _ => rfl) (fun _ _ => Nat.le_of_ble_eq_true rfl) ?_
  refine wa_aload_n (pc' := 1) dX7_fillTo_0 rfl rfl rfl ?_
  refine wa_getfield (pc' := 4) (j := 1) zc_X7 lk_X7_15 dX7_fillTo_1 rfl (by decide) rfl rfl ?_
  refine wa_istore_n (pc' := 5) (ls' := [(3, _), (0, _), (1, _), (2, _)]) dX7_fillTo_4 rfl rfl (by decide) rfl ?_
  exact l_fillTo n c hn hnz hc _ r ⟨h0, h1⟩ rfl

set_option maxRecDepth 10000 in
set_option maxHeartbeats 1000000 in
theorem l_addAll (q : Nat) (hq : q < 11) : ∀ (m : Nat) (r : zRw) (i : Nat), 0 ≤ r.1 → i + m = (zBytes.getD q []).length → r.1 + m ≤ 680 → Wa q_X7_addAll 4 0 0 2 (zD none (wRow (rL r ((zBytes.getD q []).drop i)))) 2 [(2, zI i), (0, zR 0), (1, zK (11 + q))] [] (wRow r) 0 0 := by
  have hl := zblen hq
  intro m
  induction m with
  | zero =>
    intro r i h0 hm h1
    refine wa_iload_n (pc' := 3) dX7_addAll_2 rfl rfl rfl ?_
    refine wa_aload_n (pc' := 4) dX7_addAll_3 rfl rfl rfl ?_
    refine wa_dK (pc' := 7) (w' := [_, _]) (k_J0_length_8abf5 q hq) ok_J0_length_8abf5 lm_X7_19 dX7_addAll_4 rfl [] rfl (by decide) rfl rfl (zk_str hq) (by decide) (Nat.le_of_ble_eq_true rfl) rfl (by decide) (by decide) rfl rfl rfl ?_
    refine wa_icmp_ge (tgt := 25) (pc' := 10) dX7_addAll_7 (by decide) rfl (by omega) (by omega) (fun c7 => ?_) (fun c7 => ?_)
    · refine wa_vret dX7_addAll_25 rfl (by decide) (by decide) ?_
      exact zD_i rfl (by rw [List.drop_eq_nil_of_le (by omega)]; rfl)
    · exact absurd c7 (by omega)
  | succ m ih =>
    intro r i h0 hm h1
    obtain ⟨b1, b2, b3⟩ := zbyte q hq i (by omega)
    refine wa_iload_n (pc' := 3) dX7_addAll_2 rfl rfl rfl ?_
    refine wa_aload_n (pc' := 4) dX7_addAll_3 rfl rfl rfl ?_
    refine wa_dK (pc' := 7) (w' := [_, _]) (k_J0_length_8abf5 q hq) ok_J0_length_8abf5 lm_X7_19 dX7_addAll_4 rfl [] rfl (by decide) rfl rfl (zk_str hq) (by decide) (Nat.le_of_ble_eq_true rfl) rfl (by decide) (by decide) rfl rfl rfl ?_
    refine wa_icmp_ge (tgt := 25) (pc' := 10) dX7_addAll_7 (by decide) rfl (by omega) (by omega) (fun c7 => ?_) (fun c7 => ?_)
    · exact absurd c7 (by omega)
    · refine wa_aload_n (pc' := 11) dX7_addAll_10 rfl rfl rfl ?_
      refine wa_aload_n (pc' := 12) dX7_addAll_11 rfl rfl rfl ?_
      refine wa_iload_n (pc' := 13) dX7_addAll_12 rfl rfl rfl ?_
      refine wa_dK (pc' := 16) (w' := [_, _]) (k_J0_charAt_5068e q hq (i : Int) (by omega) (by omega)) ok_J0_charAt_5068e lm_X7_25 dX7_addAll_13 rfl [] rfl (by decide) rfl rfl (zk_str hq) (by decide) (Nat.le_of_ble_eq_true rfl) rfl (by decide) (by decide) rfl rfl rfl ?_
      refine wa_dV (pc' := 19) (w' := [zO _ [_, _], zA _ _ _]) (k_X7_add r (by omega) (by omega) ((zBytes.getD q []).getD i 0) (by omega)) ok_X7_add lm_X7_29 dX7_addAll_16 rfl [0, 1] rfl (by decide) rfl rfl rfl rfl rfl (by decide) (Nat.le_of_ble_eq_true rfl) rfl (by decide) (by decide) rfl rfl rfl ?_
      refine wa_iinc (pc' := 22) (ls' := [(2, _), (0, _), (1, _)]) dX7_addAll_19 rfl rfl (by decide) rfl ?_
      refine wa_goto (pc' := 2) dX7_addAll_22 (by decide) ?_
      rw [drop_getD (zBytes.getD q []) i (by omega)]
      exact ih (rA r ((zBytes.getD q []).getD i 0)) (i + 1) (by simp only [rA]; omega) (by omega) (by simp only [rA]; omega)

set_option maxRecDepth 10000 in
set_option maxHeartbeats 1000000 in
theorem k_X7_addAll (r : zRw) (q : Nat) (hq : q < 11) (h0 : 0 ≤ r.1) (h1 : r.1 + (zBytes.getD q []).length ≤ 680) : zMet q_X7_addAll 4 0 0 [zR 0, zK (11 + q)] (wRow r) (zD none (wRow (rL r (zBytes.getD q [])))) := by
  refine z_introF (ls := [(0, _), (1, _)]) (by decide +kernel) rfl (fun _ _ => rfl) (fun _ _ => Nat.le_of_ble_eq_true rfl) ?_
  refine wa_iconst (pc' := 1) dX7_addAll_0 rfl ?_
  refine wa_istore_n (pc' := 2) (ls' := [(2, _), (0, _), (1, _)]) dX7_addAll_1 rfl rfl (by decide) rfl ?_
  exact l_addAll q hq _ r 0 h0 (by omega) h1

