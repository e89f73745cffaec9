/-! Reader -/
/-- a character of the text, -1 behind it -/
def gT (r : zRw) (i : Int) : Int := if 0 ≤ i ∧ i < r.1 then r.2 i else -1
def okT (r : zRw) : Prop := 0 ≤ r.1 ∧ r.1 ≤ 200 ∧ ∀ j : Int, 0 ≤ j → j < r.1 → 32 ≤ r.2 j ∧ r.2 j ≤ 126
theorem gT_b {r : zRw} (h : okT r) (i : Int) : -1 ≤ gT r i ∧ gT r i ≤ 126 := by
  unfold gT
  split
  · have := h.2.2 i (by omega) (by omega)
    omega
  · omega
theorem gT_p {r : zRw} (h : okT r) (i : Int) : 0 ≤ i → i < r.1 → 32 ≤ gT r i := by
  intro h0 h1
  unfold gT
  rw [if_pos ⟨h0, h1⟩]
  exact (h.2.2 i h0 h1).1
def ntR (g : Int → Int) (p : Int) : Int × Int := if nat9 (g p) = 100 then (100, p) else if g (p + 1) = 35 then (nat9 (g p) + 7, p + 1 + 1) else if g (p + 1) = 98 then (nat9 (g p) - 7, p + 1 + 1) else (nat9 (g p), p + 1)
theorem nat9_b (c : Int) : -1 ≤ nat9 c ∧ nat9 c ≤ 100 ∧ (nat9 c = 100 ∨ nat9 c ≤ 5) := by
  have := zidx_in c
  unfold nat9
  split <;> omega
theorem ntR_b (g : Int → Int) (p : Int) : -8 ≤ (ntR g p).1 ∧ (ntR g p).1 ≤ 100 ∧ ((ntR g p).1 = 100 ∨ (ntR g p).1 ≤ 12) ∧ p ≤ (ntR g p).2 ∧ (ntR g p).2 ≤ p + 2 ∧ ((ntR g p).1 = 100 ∨ p < (ntR g p).2) := by
  have := nat9_b (g p)
  unfold ntR
  (repeat' split) <;> dsimp only <;> refine ⟨?_, ?_, ?_, ?_, ?_, ?_⟩ <;> omega
def shR (g : Int → Int) (p : Int) : List Int → Int → Int
  | [], k => k
  | c :: l, k => if g (p + k) = c then shR g p l (k + 1) else k
theorem shR_b (g : Int → Int) (p : Int) : ∀ (l : List Int) (k : Int), k ≤ shR g p l k ∧ shR g p l k ≤ k + l.length
  | [], k => by simp [shR]
  | c :: l, k => by
    have := shR_b g p l (k + 1)
    simp only [shR, List.length_cons]
    split <;> omega
def quR (g : Int → Int) (p : Int) : Nat → Int → Int → Int → Int → Int × Int × Int
  | 0, _, lo, fo, qu => (lo, fo, qu)
  | m + 1, i, lo, fo, qu =>
    if shR g p (zBytes.getD i.toNat []) 0 > lo then
      (if shR g p (zBytes.getD i.toNat []) 0 = (zBytes.getD i.toNat []).length then quR g p m (i + 1) (shR g p (zBytes.getD i.toNat []) 0) 1 i else quR g p m (i + 1) (shR g p (zBytes.getD i.toNat []) 0) 0 qu)
    else
      (if shR g p (zBytes.getD i.toNat []) 0 = lo ∧ shR g p (zBytes.getD i.toNat []) 0 = (zBytes.getD i.toNat []).length then quR g p m (i + 1) lo 1 i else quR g p m (i + 1) lo fo qu)
theorem quR_b (g : Int → Int) (p : Int) : ∀ (m : Nat) (i lo fo qu : Int), 0 ≤ i → i + m = 10 → (-1 ≤ lo ∧ lo ≤ 8) → (0 ≤ lo ∨ 0 < m) → (fo = 0 ∨ fo = 1) → (0 ≤ qu ∧ qu < 10) → (0 ≤ (quR g p m i lo fo qu).1 ∧ (quR g p m i lo fo qu).1 ≤ 8) ∧ ((quR g p m i lo fo qu).2.1 = 0 ∨ (quR g p m i lo fo qu).2.1 = 1) ∧ (0 ≤ (quR g p m i lo fo qu).2.2 ∧ (quR g p m i lo fo qu).2.2 < 10)
  | 0, i, lo, fo, qu, h0, h1, h2, h3, h4, h5 => ⟨⟨by simp only [quR]; omega, by simp only [quR]; omega⟩, h4, h5⟩
  | m + 1, i, lo, fo, qu, h0, h1, h2, h3, h4, h5 => by
    have hs := shR_b g p (zBytes.getD i.toNat []) 0
    have hl := zblen (q := i.toNat) (by omega)
    simp only [quR]
    (repeat' split) <;> (apply quR_b g p m (i + 1) <;> first | omega | (try constructor) <;> omega)
def quF (g : Int → Int) (p qu : Int) : Int × Int × Int := quR g p 10 0 (-1) 0 qu
theorem quF_b (g : Int → Int) (p qu : Int) (h : 0 ≤ qu ∧ qu < 10) : (0 ≤ (quF g p qu).1 ∧ (quF g p qu).1 ≤ 8) ∧ ((quF g p qu).2.1 = 0 ∨ (quF g p qu).2.1 = 1) ∧ (0 ≤ (quF g p qu).2.2 ∧ (quF g p qu).2.2 < 10) := quR_b g p 10 0 (-1) 0 qu (by decide) (by decide) (by decide) (by decide) (by decide) h
/-- stop, root, quality, bass, whole -/
def chR (g : Int → Int) (fr qu : Int) : Int × Int × Int × Int × Int :=
  if (ntR g fr).1 = 100 then ((ntR g fr).2, 100, qu, 100, 0)
  else if (quF g (ntR g fr).2 qu).2.1 = 0 then ((ntR g fr).2 + (quF g (ntR g fr).2 qu).1, (ntR g fr).1, (quF g (ntR g fr).2 qu).2.2, 100, 0)
  else if g ((ntR g fr).2 + (quF g (ntR g fr).2 qu).1) = 47 then ((ntR g ((ntR g fr).2 + (quF g (ntR g fr).2 qu).1 + 1)).2, (ntR g fr).1, (quF g (ntR g fr).2 qu).2.2, (ntR g ((ntR g fr).2 + (quF g (ntR g fr).2 qu).1 + 1)).1, if (ntR g ((ntR g fr).2 + (quF g (ntR g fr).2 qu).1 + 1)).1 = 100 then 0 else 1)
  else ((ntR g fr).2 + (quF g (ntR g fr).2 qu).1, (ntR g fr).1, (quF g (ntR g fr).2 qu).2.2, 100, 1)
theorem chR_b (g : Int → Int) (fr qu : Int) (h : 0 ≤ qu ∧ qu < 10) : (fr ≤ (chR g fr qu).1 ∧ (chR g fr qu).1 ≤ fr + 20) ∧ (-8 ≤ (chR g fr qu).2.1 ∧ (chR g fr qu).2.1 ≤ 100) ∧ (0 ≤ (chR g fr qu).2.2.1 ∧ (chR g fr qu).2.2.1 < 10) ∧ (-8 ≤ (chR g fr qu).2.2.2.1 ∧ (chR g fr qu).2.2.2.1 ≤ 100) ∧ ((chR g fr qu).2.2.2.2 = 0 ∨ (chR g fr qu).2.2.2.2 = 1) := by
  have h1 := ntR_b g fr
  have h2 := quF_b g (ntR g fr).2 qu h
  have h3 := ntR_b g ((ntR g fr).2 + (quF g (ntR g fr).2 qu).1 + 1)
  unfold chR
  (repeat' split) <;> dsimp only <;> refine ⟨⟨?_, ?_⟩, ⟨?_, ?_⟩, ⟨?_, ?_⟩, ⟨?_, ?_⟩, ?_⟩ <;> omega
abbrev wRd (r : zRw) (st ro qu ba wh : Int) : List zE := [zO 2 [zR 1, zI st, zI ro, zI qu, zI ba, zI wh], zO 3 [zR 2, zI r.1], zA 1 680 r.2]
set_option maxRecDepth 10000 in
set_option maxHeartbeats 1000000 in
theorem k_X6_root (r : zRw) (st ro qu ba wh : Int) : zMet q_X6_root 0 0 0 [zR 0] (wRd r st ro qu ba wh) (zD (some (zI ro)) (wRd r st ro qu ba wh)) := by
  refine z_introF (ls := [(0, _)]) (by decide +kernel) rfl (fun _ _ => rfl) (fun _ _ => Nat.le_of_ble_eq_true rfl) ?_
  refine wa_aload_n (pc' := 1) dX6_root_0 rfl rfl rfl ?_
  refine wa_getfield (pc' := 4) (j := 2) zc_X6 lk_X6_15 dX6_root_1 rfl (by decide) rfl rfl ?_
  refine wa_iret dX6_root_4 rfl (by decide) (by decide) ?_
  exact ⟨rfl, rfl⟩

set_option maxRecDepth 10000 in
set_option maxHeartbeats 1000000 in
theorem k_X6_quality (r : zRw) (st ro qu ba wh : Int) : zMet q_X6_quality 0 0 0 [zR 0] (wRd r st ro qu ba wh) (zD (some (zI qu)) (wRd r st ro qu ba wh)) := by
  refine z_introF (ls := [(0, _)]) (by decide +kernel) rfl (fun _ _ => rfl) (fun _ _ => Nat.le_of_ble_eq_true rfl) ?_
  refine wa_aload_n (pc' := 1) dX6_quality_0 rfl rfl rfl ?_
  refine wa_getfield (pc' := 4) (j := 3) zc_X6 lk_X6_19 dX6_quality_1 rfl (by decide) rfl rfl ?_
  refine wa_iret dX6_quality_4 rfl (by decide) (by decide) ?_
  exact ⟨rfl, rfl⟩

set_option maxRecDepth 10000 in
set_option maxHeartbeats 1000000 in
theorem k_X6_bass (r : zRw) (st ro qu ba wh : Int) : zMet q_X6_bass 0 0 0 [zR 0] (wRd r st ro qu ba wh) (zD (some (zI ba)) (wRd r st ro qu ba wh)) := by
  refine z_introF (ls := [(0, _)]) (by decide +kernel) rfl (fun _ _ => rfl) (fun _ _ => Nat.le_of_ble_eq_true rfl) ?_
  refine wa_aload_n (pc' := 1) dX6_bass_0 rfl rfl rfl ?_
  refine wa_getfield (pc' := 4) (j := 4) zc_X6 lk_X6_22 dX6_bass_1 rfl (by decide) rfl rfl ?_
  refine wa_iret dX6_bass_4 rfl (by decide) (by decide) ?_
  exact ⟨rfl, rfl⟩

set_option maxRecDepth 10000 in
set_option maxHeartbeats 1000000 in
theorem k_X6_readNote (r : zRw) (st ro qu ba wh : Int) (hr : okT r) (hs : 0 ≤ st ∧ st ≤ 1000) : zMet q_X6_readNote 5 0 0 [zR 0] (wRd r st ro qu ba wh) (zD (some (zI (ntR (gT r) st).1)) (wRd r (ntR (gT r) st).2 ro qu ba wh)) := by
  refine z_introF (ls := [(0, _)]) (by decide +kernel) rfl (fun _ _ => rfl) (fun _ _ => Nat.le_of_ble_eq_true rfl) ?_
  have g0 := gT_b hr st
  have g1 := gT_b hr (st + 1)
  have n0 := nat9_b (gT r st)
  refine wa_aload_n (pc' := 1) dX6_readNote_0 rfl rfl rfl ?_
  refine wa_getfield (pc' := 4) (j := 0) zc_X6 lk_X6_9 dX6_readNote_1 rfl (by decide) rfl rfl ?_
  refine wa_aload_n (pc' := 5) dX6_readNote_4 rfl rfl rfl ?_
  refine wa_getfield (pc' := 8) (j := 1) zc_X6 lk_X6_51 dX6_readNote_5 rfl (by decide) rfl rfl ?_
  refine wa_rV (pc' := 11) (k_X7_at r (by have := hr.1; omega) (by have := hr.2.1; omega) (st) (by omega)) ok_X7_at lm_X6_36 dX6_readNote_8 rfl [1, 2] rfl (by decide) rfl rfl rfl rfl rfl (by decide) (Nat.le_of_ble_eq_true rfl) rfl (by decide) (by decide) rfl ?_
  show Wa _ _ _ _ _ _ _ _ (zI (gT r (st)) :: _) _ _ _
  refine wa_dS (pc' := 14) (w' := [_, _, _]) (k_X4_natural (gT r st) (by omega)) ok_X4_natural lm_X6_78 dX6_readNote_11 rfl [] rfl (by decide) rfl rfl (by decide) (Nat.le_of_ble_eq_true rfl) rfl (by decide) (by decide) rfl rfl rfl ?_
  refine wa_istore_n (pc' := 15) (ls' := [(1, _), (0, _)]) dX6_readNote_14 rfl rfl (by decide) rfl ?_
  refine wa_iload_n (pc' := 16) dX6_readNote_15 rfl rfl rfl ?_
  refine wa_bipush (pc' := 18) dX6_readNote_16 rfl rfl ?_
  refine wa_icmp_ne (tgt := 24) (pc' := 21) dX6_readNote_18 (by decide) rfl (by omega) (by omega) (fun c18 => ?_) (fun c18 => ?_)
  · refine wa_aload_n (pc' := 25) dX6_readNote_24 rfl rfl rfl ?_
    refine wa_dup (pc' := 26) dX6_readNote_25 rfl rfl ?_
    refine wa_getfield (pc' := 29) (j := 1) zc_X6 lk_X6_51 dX6_readNote_26 rfl (by decide) rfl rfl ?_
    refine wa_iconst (pc' := 30) dX6_readNote_29 rfl ?_
    refine wa_iadd (pc' := 31) dX6_readNote_30 rfl ?_
    refine wa_putfield (pc' := 34) (j := 1) (w' := [zO _ [_, _, _, _, _, _], _, _]) zc_X6 lk_X6_51 dX6_readNote_31 rfl (by decide) rfl rfl (Nat.le_of_ble_eq_true rfl) True.intro rfl ?_
    refine wa_aload_n (pc' := 35) dX6_readNote_34 rfl rfl rfl ?_
    refine wa_getfield (pc' := 38) (j := 0) zc_X6 lk_X6_9 dX6_readNote_35 rfl (by decide) rfl rfl ?_
    refine wa_aload_n (pc' := 39) dX6_readNote_38 rfl rfl rfl ?_
    refine wa_getfield (pc' := 42) (j := 1) zc_X6 lk_X6_51 dX6_readNote_39 rfl (by decide) rfl rfl ?_
    refine wa_rV (pc' := 45) (k_X7_at r (by have := hr.1; omega) (by have := hr.2.1; omega) (st + 1) (by omega)) ok_X7_at lm_X6_36 dX6_readNote_42 rfl [1, 2] rfl (by decide) rfl rfl rfl rfl rfl (by decide) (Nat.le_of_ble_eq_true rfl) rfl (by decide) (by decide) rfl ?_
    show Wa _ _ _ _ _ _ _ _ (zI (gT r (st + 1)) :: _) _ _ _
    refine wa_istore_n (pc' := 46) (ls' := [(2, _), (1, _), (0, _)]) dX6_readNote_45 rfl rfl (by decide) rfl ?_
    refine wa_iload_n (pc' := 47) dX6_readNote_46 rfl rfl rfl ?_
    refine wa_bipush (pc' := 49) dX6_readNote_47 rfl rfl ?_
    refine wa_icmp_eq (tgt := 60) (pc' := 52) dX6_readNote_49 (by decide) rfl (by omega) (by omega) (fun c49 => ?_) (fun c49 => ?_)
    · refine wa_aload_n (pc' := 61) dX6_readNote_60 rfl rfl rfl ?_
      refine wa_dup (pc' := 62) dX6_readNote_61 rfl rfl ?_
      refine wa_getfield (pc' := 65) (j := 1) zc_X6 lk_X6_51 dX6_readNote_62 rfl (by decide) rfl rfl ?_
      refine wa_iconst (pc' := 66) dX6_readNote_65 rfl ?_
      refine wa_iadd (pc' := 67) dX6_readNote_66 rfl ?_
      refine wa_putfield (pc' := 70) (j := 1) (w' := [zO _ [_, _, _, _, _, _], _, _]) zc_X6 lk_X6_51 dX6_readNote_67 rfl (by decide) rfl rfl (Nat.le_of_ble_eq_true rfl) True.intro rfl ?_
      refine wa_iload_n (pc' := 71) dX6_readNote_70 rfl rfl rfl ?_
      refine wa_bipush (pc' := 73) dX6_readNote_71 rfl rfl ?_
      refine wa_icmp_ne (tgt := 83) (pc' := 76) dX6_readNote_73 (by decide) rfl (by omega) (by omega) (fun c73 => ?_) (fun c73 => ?_)
      · refine wa_iload_n (pc' := 84) dX6_readNote_83 rfl rfl rfl ?_
        refine wa_bipush (pc' := 86) dX6_readNote_84 rfl rfl ?_
        refine wa_isub (pc' := 87) dX6_readNote_86 rfl ?_
        refine wa_iret dX6_readNote_87 rfl (by decide) (by decide) ?_
        first | exact absurd c49 c73 | exact absurd c73 c49 | exact zD_i (by rw [ntR, if_neg (by omega), if_pos (by omega)]) (by rw [ntR, if_neg (by omega), if_pos (by omega)]) | exact zD_i (by rw [ntR, if_neg (by omega), if_neg (by omega), if_pos (by omega)]) (by rw [ntR, if_neg (by omega), if_neg (by omega), if_pos (by omega)])
      · refine wa_iload_n (pc' := 77) dX6_readNote_76 rfl rfl rfl ?_
        refine wa_bipush (pc' := 79) dX6_readNote_77 rfl rfl ?_
        refine wa_iadd (pc' := 80) dX6_readNote_79 rfl ?_
        refine wa_goto (pc' := 87) dX6_readNote_80 (by decide) ?_
        refine wa_iret dX6_readNote_87 rfl (by decide) (by decide) ?_
        first | exact absurd c49 c73 | exact absurd c73 c49 | exact zD_i (by rw [ntR, if_neg (by omega), if_pos (by omega)]) (by rw [ntR, if_neg (by omega), if_pos (by omega)]) | exact zD_i (by rw [ntR, if_neg (by omega), if_neg (by omega), if_pos (by omega)]) (by rw [ntR, if_neg (by omega), if_neg (by omega), if_pos (by omega)])
    · refine wa_iload_n (pc' := 53) dX6_readNote_52 rfl rfl rfl ?_
      refine wa_bipush (pc' := 55) dX6_readNote_53 rfl rfl ?_
      refine wa_icmp_eq (tgt := 60) (pc' := 58) dX6_readNote_55 (by decide) rfl (by omega) (by omega) (fun c55 => ?_) (fun c55 => ?_)
      · refine wa_aload_n (pc' := 61) dX6_readNote_60 rfl rfl rfl ?_
        refine wa_dup (pc' := 62) dX6_readNote_61 rfl rfl ?_
        refine wa_getfield (pc' := 65) (j := 1) zc_X6 lk_X6_51 dX6_readNote_62 rfl (by decide) rfl rfl ?_
        refine wa_iconst (pc' := 66) dX6_readNote_65 rfl ?_
        refine wa_iadd (pc' := 67) dX6_readNote_66 rfl ?_
        refine wa_putfield (pc' := 70) (j := 1) (w' := [zO _ [_, _, _, _, _, _], _, _]) zc_X6 lk_X6_51 dX6_readNote_67 rfl (by decide) rfl rfl (Nat.le_of_ble_eq_true rfl) True.intro rfl ?_
        refine wa_iload_n (pc' := 71) dX6_readNote_70 rfl rfl rfl ?_
        refine wa_bipush (pc' := 73) dX6_readNote_71 rfl rfl ?_
        refine wa_icmp_ne (tgt := 83) (pc' := 76) dX6_readNote_73 (by decide) rfl (by omega) (by omega) (fun c73 => ?_) (fun c73 => ?_)
        · refine wa_iload_n (pc' := 84) dX6_readNote_83 rfl rfl rfl ?_
          refine wa_bipush (pc' := 86) dX6_readNote_84 rfl rfl ?_
          refine wa_isub (pc' := 87) dX6_readNote_86 rfl ?_
          refine wa_iret dX6_readNote_87 rfl (by decide) (by decide) ?_
          first | exact absurd c49 c73 | exact absurd c73 c49 | exact zD_i (by rw [ntR, if_neg (by omega), if_pos (by omega)]) (by rw [ntR, if_neg (by omega), if_pos (by omega)]) | exact zD_i (by rw [ntR, if_neg (by omega), if_neg (by omega), if_pos (by omega)]) (by rw [ntR, if_neg (by omega), if_neg (by omega), if_pos (by omega)])
        · refine wa_iload_n (pc' := 77) dX6_readNote_76 rfl rfl rfl ?_
          refine wa_bipush (pc' := 79) dX6_readNote_77 rfl rfl ?_
          refine wa_iadd (pc' := 80) dX6_readNote_79 rfl ?_
          refine wa_goto (pc' := 87) dX6_readNote_80 (by decide) ?_
          refine wa_iret dX6_readNote_87 rfl (by decide) (by decide) ?_
          first | exact absurd c49 c73 | exact absurd c73 c49 | exact zD_i (by rw [ntR, if_neg (by omega), if_pos (by omega)]) (by rw [ntR, if_neg (by omega), if_pos (by omega)]) | exact zD_i (by rw [ntR, if_neg (by omega), if_neg (by omega), if_pos (by omega)]) (by rw [ntR, if_neg (by omega), if_neg (by omega), if_pos (by omega)])
      · refine wa_iload_n (pc' := 59) dX6_readNote_58 rfl rfl rfl ?_
        refine wa_iret dX6_readNote_59 rfl (by decide) (by decide) ?_
        exact zD_i (by rw [ntR, if_neg (by omega), if_neg (by omega), if_neg (by omega)]) (by rw [ntR, if_neg (by omega), if_neg (by omega), if_neg (by omega)])
  · refine wa_bipush (pc' := 23) dX6_readNote_21 rfl rfl ?_
    refine wa_iret dX6_readNote_23 rfl (by decide) (by decide) ?_
    exact zD_i (by rw [ntR, if_pos (by omega)]) (by rw [ntR, if_pos (by omega)])

set_option maxRecDepth 10000 in
set_option maxHeartbeats 1000000 in
theorem l_shared (r : zRw) (st ro qu ba wh : Int) (q : Nat) (hq : q < 11) (hr : okT r) (hs : 0 ≤ st ∧ st ≤ 1000) (R : Int) : ∀ (m i : Nat), i + m = (zBytes.getD q []).length → shR (gT r) st ((zBytes.getD q []).drop i) i = R → Wa q_X6_sharedLength 4 0 0 3 (zD (some (zI R)) (wRd r st ro qu ba wh)) 2 [(2, zI i), (0, zR 0), (1, zK (11 + q))] [] (wRd r st ro qu ba wh) 0 0 := by
  have hl := zblen hq
  intro m
  induction m with
  | zero =>
    intro i hm hR
    refine wa_iload_n (pc' := 3) dX6_sharedLength_2 rfl rfl rfl ?_
    refine wa_aload_n (pc' := 4) dX6_sharedLength_3 rfl rfl rfl ?_
    refine wa_dK (pc' := 7) (w' := [_, _, _]) (k_J0_length_8abf5 q hq) ok_J0_length_8abf5 lm_X6_99 dX6_sharedLength_4 rfl [] rfl (by decide) rfl rfl (zk_str hq) (by decide) (Nat.le_of_ble_eq_true rfl) rfl (by decide) (by decide) rfl rfl rfl ?_
    refine wa_icmp_ge (tgt := 37) (pc' := 10) dX6_sharedLength_7 (by decide) rfl (by omega) (by omega) (fun c7 => ?_) (fun c7 => ?_)
    · refine wa_iload_n (pc' := 38) dX6_sharedLength_37 rfl rfl rfl ?_
      refine wa_iret dX6_sharedLength_38 rfl (by decide) (by decide) ?_
      exact zD_i (by rw [← hR, List.drop_eq_nil_of_le (by omega)]; rfl) rfl
    · exact absurd c7 (by omega)
  | succ m ih =>
    intro i hm hR
    have gi := gT_b hr (st + i)
    obtain ⟨b1, b2, b3⟩ := zbyte q hq i (by omega)
    rw [drop_getD (zBytes.getD q []) i (by omega), shR] at hR
    refine wa_iload_n (pc' := 3) dX6_sharedLength_2 rfl rfl rfl ?_
    refine wa_aload_n (pc' := 4) dX6_sharedLength_3 rfl rfl rfl ?_
    refine wa_dK (pc' := 7) (w' := [_, _, _]) (k_J0_length_8abf5 q hq) ok_J0_length_8abf5 lm_X6_99 dX6_sharedLength_4 rfl [] rfl (by decide) rfl rfl (zk_str hq) (by decide) (Nat.le_of_ble_eq_true rfl) rfl (by decide) (by decide) rfl rfl rfl ?_
    refine wa_icmp_ge (tgt := 37) (pc' := 10) dX6_sharedLength_7 (by decide) rfl (by omega) (by omega) (fun c7 => ?_) (fun c7 => ?_)
    · exact absurd c7 (by omega)
    · refine wa_aload_n (pc' := 11) dX6_sharedLength_10 rfl rfl rfl ?_
      refine wa_getfield (pc' := 14) (j := 0) zc_X6 lk_X6_9 dX6_sharedLength_11 rfl (by decide) rfl rfl ?_
      refine wa_aload_n (pc' := 15) dX6_sharedLength_14 rfl rfl rfl ?_
      refine wa_getfield (pc' := 18) (j := 1) zc_X6 lk_X6_51 dX6_sharedLength_15 rfl (by decide) rfl rfl ?_
      refine wa_iload_n (pc' := 19) dX6_sharedLength_18 rfl rfl rfl ?_
      refine wa_iadd (pc' := 20) dX6_sharedLength_19 rfl ?_
      refine wa_rV (pc' := 23) (k_X7_at r (by have := hr.1; omega) (by have := hr.2.1; omega) (st + i) (by omega)) ok_X7_at lm_X6_36 dX6_sharedLength_20 rfl [1, 2] rfl (by decide) rfl rfl rfl rfl rfl (by decide) (Nat.le_of_ble_eq_true rfl) rfl (by decide) (by decide) rfl ?_
      show Wa _ _ _ _ _ _ _ _ (zI (gT r (st + i)) :: _) _ _ _
      refine wa_aload_n (pc' := 24) dX6_sharedLength_23 rfl rfl rfl ?_
      refine wa_iload_n (pc' := 25) dX6_sharedLength_24 rfl rfl rfl ?_
      refine wa_dK (pc' := 28) (w' := [_, _, _]) (k_J0_charAt_5068e q hq (i : Int) (by omega) (by omega)) ok_J0_charAt_5068e lm_X6_104 dX6_sharedLength_25 rfl [] rfl (by decide) rfl rfl (zk_str hq) (by decide) (Nat.le_of_ble_eq_true rfl) rfl (by decide) (by decide) rfl rfl rfl ?_
      show Wa _ _ _ _ _ _ _ _ [zI ((zBytes.getD q []).getD i 0), zI (gT r (st + i))] _ _ _
      refine wa_icmp_ne (tgt := 37) (pc' := 31) dX6_sharedLength_28 (by decide) rfl (by omega) (by omega) (fun c28 => ?_) (fun c28 => ?_)
      · refine wa_iload_n (pc' := 38) dX6_sharedLength_37 rfl rfl rfl ?_
        refine wa_iret dX6_sharedLength_38 rfl (by decide) (by decide) ?_
        exact zD_i (by rw [← hR, if_neg c28]) rfl
      · refine wa_iinc (pc' := 34) (ls' := [(2, _), (0, _), (1, _)]) dX6_sharedLength_31 rfl rfl (by decide) rfl ?_
        refine wa_goto (pc' := 2) dX6_sharedLength_34 (by decide) ?_
        rw [if_pos c28] at hR
        exact ih (i + 1) (by omega) hR

set_option maxRecDepth 10000 in
set_option maxHeartbeats 1000000 in
theorem k_X6_sharedLength (r : zRw) (st ro qu ba wh : Int) (q : Nat) (hq : q < 11) (hr : okT r) (hs : 0 ≤ st ∧ st ≤ 1000) : zMet q_X6_sharedLength 4 0 0 [zR 0, zK (11 + q)] (wRd r st ro qu ba wh) (zD (some (zI (shR (gT r) st (zBytes.getD q []) 0))) (wRd r st ro qu ba wh)) := by
  refine z_introF (ls := [(0, _), (1, _)]) (by decide +kernel) rfl (fun _ _ => rfl) (fun _ _ => Nat.le_of_ble_eq_true rfl) ?_
  refine wa_iconst (pc' := 1) dX6_sharedLength_0 rfl ?_
  refine wa_istore_n (pc' := 2) (ls' := [(2, _), (0, _), (1, _)]) dX6_sharedLength_1 rfl rfl (by decide) rfl ?_
  exact l_shared r st ro qu ba wh q hq hr hs _ (zBytes.getD q []).length 0 (by omega) rfl

set_option maxRecDepth 10000 in
set_option maxHeartbeats 4000000 in
theorem l_readQ (r : zRw) (st ro ba wh : Int) (hr : okT r) (hs : 0 ≤ st ∧ st ≤ 900) (R : Int × Int × Int) (hR1 : 0 ≤ R.1 ∧ R.1 ≤ 8) (hR2 : R.2.1 = 0 ∨ R.2.1 = 1) : ∀ (m : Nat) (i lo fo qu : Int), 0 ≤ i → i + m = 10 → (-1 ≤ lo ∧ lo ≤ 8) → (fo = 0 ∨ fo = 1) → quR (gT r) st m i lo fo qu = R → Wa q_X6_readQuality 5 0 0 3 (zD (some (zI R.2.1)) (wRd r (st + R.1) ro R.2.2 ba wh)) 6 [(3, zI i), (1, zI lo), (2, zI fo), (0, zR 0)] [] (wRd r st ro qu ba wh) 0 0 := by
  intro m
  induction m with
  | zero =>
    intro i lo fo qu h0 hm hlo hfo hR
    subst hR
    refine wa_iload_n (pc' := 7) dX6_readQuality_6 rfl rfl rfl ?_
    refine wa_dS (pc' := 10) (w' := [_, _, _]) k_X5_count ok_X5_count lm_X6_83 dX6_readQuality_7 rfl [] rfl (by decide) rfl rfl (by decide) (Nat.le_of_ble_eq_true rfl) rfl (by decide) (by decide) rfl rfl rfl ?_
    refine wa_icmp_ge (tgt := 70) (pc' := 13) dX6_readQuality_10 (by decide) rfl (by omega) (by omega) (fun c10 => ?_) (fun c10 => ?_)
    · refine wa_aload_n (pc' := 71) dX6_readQuality_70 rfl rfl rfl ?_
      refine wa_dup (pc' := 72) dX6_readQuality_71 rfl rfl ?_
      refine wa_getfield (pc' := 75) (j := 1) zc_X6 lk_X6_51 dX6_readQuality_72 rfl (by decide) rfl rfl ?_
      refine wa_iload_n (pc' := 76) dX6_readQuality_75 rfl rfl rfl ?_
      refine wa_iadd (pc' := 77) dX6_readQuality_76 rfl ?_
      refine wa_putfield (pc' := 80) (j := 1) (w' := [zO _ [_, _, _, _, _, _], _, _]) zc_X6 lk_X6_51 dX6_readQuality_77 rfl (by decide) rfl rfl (Nat.le_of_ble_eq_true rfl) True.intro rfl ?_
      refine wa_iload_n (pc' := 81) dX6_readQuality_80 rfl rfl rfl ?_
      refine wa_zret dX6_readQuality_81 rfl (by decide) (by decide) (by omega) ?_
      exact ⟨rfl, rfl⟩
    · exact absurd c10 (by omega)
  | succ m ih =>
    intro i lo fo qu h0 hm hlo hfo hR
    have hl := zblen (q := i.toNat) (by omega)
    have hsh := shR_b (gT r) st (zBytes.getD i.toNat []) 0
    rw [quR] at hR
    refine wa_iload_n (pc' := 7) dX6_readQuality_6 rfl rfl rfl ?_
    refine wa_dS (pc' := 10) (w' := [_, _, _]) k_X5_count ok_X5_count lm_X6_83 dX6_readQuality_7 rfl [] rfl (by decide) rfl rfl (by decide) (Nat.le_of_ble_eq_true rfl) rfl (by decide) (by decide) rfl rfl rfl ?_
    refine wa_icmp_ge (tgt := 70) (pc' := 13) dX6_readQuality_10 (by decide) rfl (by omega) (by omega) (fun c10 => ?_) (fun c10 => ?_)
    · exact absurd c10 (by omega)
    · refine wa_iload_n (pc' := 14) dX6_readQuality_13 rfl rfl rfl ?_
      refine wa_dS (pc' := 17) (w' := [_, _, _]) (k_X5_at i (by omega)) ok_X5_at lm_X6_88 dX6_readQuality_14 rfl [] rfl (by decide) rfl rfl (by decide) (Nat.le_of_ble_eq_true rfl) rfl (by decide) (by decide) rfl rfl rfl ?_
      refine wa_kgetN (q := "") (pc' := 20) (v := zK (11 + i.toNat)) (zk_suffix (by omega)) lk_X6_91 dX6_readQuality_17 rfl ?_
      refine wa_astore (pc' := 22) (ls' := [(4, _), (3, _), (1, _), (2, _), (0, _)]) dX6_readQuality_20 rfl (by decide) rfl ?_
      refine wa_aload_n (pc' := 23) dX6_readQuality_22 rfl rfl rfl ?_
      refine wa_aload (pc' := 25) dX6_readQuality_23 rfl rfl ?_
      refine wa_rV (pc' := 28) (k_X6_sharedLength _ _ _ _ _ _ i.toNat (by omega) hr (by omega)) ok_X6_sharedLength lm_X6_95 dX6_readQuality_25 rfl [0, 1, 2] rfl (by decide) rfl rfl rfl rfl rfl (by decide) (Nat.le_of_ble_eq_true rfl) rfl (by decide) (by decide) rfl ?_
      refine wa_istore (pc' := 30) (ls' := [(5, _), (4, _), (3, _), (1, _), (2, _), (0, _)]) dX6_readQuality_28 rfl (by decide) rfl ?_
      refine wa_iload (pc' := 32) dX6_readQuality_30 rfl rfl ?_
      refine wa_iload_n (pc' := 33) dX6_readQuality_32 rfl rfl rfl ?_
      refine wa_icmp_le (tgt := 41) (pc' := 36) dX6_readQuality_33 (by decide) rfl (by omega) (by omega) (fun c33 => ?_) (fun c33 => ?_)
      · refine wa_iload (pc' := 43) dX6_readQuality_41 rfl rfl ?_
        refine wa_iload_n (pc' := 44) dX6_readQuality_43 rfl rfl rfl ?_
        refine wa_icmp_ne (tgt := 64) (pc' := 47) dX6_readQuality_44 (by decide) rfl (by omega) (by omega) (fun c44 => ?_) (fun c44 => ?_)
        · refine wa_iinc (pc' := 67) (ls' := [(3, _), (5, _), (4, _), (1, _), (2, _), (0, _)]) dX6_readQuality_64 rfl rfl (by decide) rfl ?_
          refine wa_goto (pc' := 6) dX6_readQuality_67 (by decide) ?_
          refine wa_sub [0, 3, 4, 5] rfl ?_
          (repeat' split at hR) <;> first | omega | exact ih (i + 1) _ _ _ (by omega) (by omega) (by omega) (by omega) hR
        · refine wa_iload (pc' := 49) dX6_readQuality_47 rfl rfl ?_
          refine wa_aload (pc' := 51) dX6_readQuality_49 rfl rfl ?_
          refine wa_dK (pc' := 54) (w' := [_, _, _]) (k_J0_length_8abf5 i.toNat (by omega)) ok_J0_length_8abf5 lm_X6_99 dX6_readQuality_51 rfl [] rfl (by decide) rfl rfl (zk_str (q := i.toNat) (by omega)) (by decide) (Nat.le_of_ble_eq_true rfl) rfl (by decide) (by decide) rfl rfl rfl ?_
          refine wa_icmp_ne (tgt := 64) (pc' := 57) dX6_readQuality_54 (by decide) rfl (by omega) (by omega) (fun c54 => ?_) (fun c54 => ?_)
          · refine wa_iinc (pc' := 67) (ls' := [(3, _), (5, _), (4, _), (1, _), (2, _), (0, _)]) dX6_readQuality_64 rfl rfl (by decide) rfl ?_
            refine wa_goto (pc' := 6) dX6_readQuality_67 (by decide) ?_
            refine wa_sub [0, 3, 4, 5] rfl ?_
            (repeat' split at hR) <;> first | omega | exact ih (i + 1) _ _ _ (by omega) (by omega) (by omega) (by omega) hR
          · refine wa_aload_n (pc' := 58) dX6_readQuality_57 rfl rfl rfl ?_
            refine wa_iload_n (pc' := 59) dX6_readQuality_58 rfl rfl rfl ?_
            refine wa_putfield (pc' := 62) (j := 3) (w' := [zO _ [_, _, _, _, _, _], _, _]) zc_X6 lk_X6_19 dX6_readQuality_59 rfl (by decide) rfl rfl (Nat.le_of_ble_eq_true rfl) True.intro rfl ?_
            refine wa_iconst (pc' := 63) dX6_readQuality_62 rfl ?_
            refine wa_istore_n (pc' := 64) (ls' := [(2, _), (5, _), (4, _), (3, _), (1, _), (0, _)]) dX6_readQuality_63 rfl rfl (by decide) rfl ?_
            refine wa_iinc (pc' := 67) (ls' := [(3, _), (2, _), (5, _), (4, _), (1, _), (0, _)]) dX6_readQuality_64 rfl rfl (by decide) rfl ?_
            refine wa_goto (pc' := 6) dX6_readQuality_67 (by decide) ?_
            refine wa_sub [0, 4, 1, 5] rfl ?_
            (repeat' split at hR) <;> first | omega | exact ih (i + 1) _ _ _ (by omega) (by omega) (by omega) (by omega) hR
      · refine wa_iload (pc' := 38) dX6_readQuality_36 rfl rfl ?_
        refine wa_istore_n (pc' := 39) (ls' := [(1, _), (5, _), (4, _), (3, _), (2, _), (0, _)]) dX6_readQuality_38 rfl rfl (by decide) rfl ?_
        refine wa_iconst (pc' := 40) dX6_readQuality_39 rfl ?_
        refine wa_istore_n (pc' := 41) (ls' := [(2, _), (1, _), (5, _), (4, _), (3, _), (0, _)]) dX6_readQuality_40 rfl rfl (by decide) rfl ?_
        refine wa_iload (pc' := 43) dX6_readQuality_41 rfl rfl ?_
        refine wa_iload_n (pc' := 44) dX6_readQuality_43 rfl rfl rfl ?_
        refine wa_icmp_ne (tgt := 64) (pc' := 47) dX6_readQuality_44 (by decide) rfl (by omega) (by omega) (fun c44 => ?_) (fun c44 => ?_)
        · refine wa_iinc (pc' := 67) (ls' := [(3, _), (2, _), (1, _), (5, _), (4, _), (0, _)]) dX6_readQuality_64 rfl rfl (by decide) rfl ?_
          refine wa_goto (pc' := 6) dX6_readQuality_67 (by decide) ?_
          refine wa_sub [0, 2, 1, 5] rfl ?_
          (repeat' split at hR) <;> first | omega | exact ih (i + 1) _ _ _ (by omega) (by omega) (by omega) (by omega) hR
        · refine wa_iload (pc' := 49) dX6_readQuality_47 rfl rfl ?_
          refine wa_aload (pc' := 51) dX6_readQuality_49 rfl rfl ?_
          refine wa_dK (pc' := 54) (w' := [_, _, _]) (k_J0_length_8abf5 i.toNat (by omega)) ok_J0_length_8abf5 lm_X6_99 dX6_readQuality_51 rfl [] rfl (by decide) rfl rfl (zk_str (q := i.toNat) (by omega)) (by decide) (Nat.le_of_ble_eq_true rfl) rfl (by decide) (by decide) rfl rfl rfl ?_
          refine wa_icmp_ne (tgt := 64) (pc' := 57) dX6_readQuality_54 (by decide) rfl (by omega) (by omega) (fun c54 => ?_) (fun c54 => ?_)
          · refine wa_iinc (pc' := 67) (ls' := [(3, _), (2, _), (1, _), (5, _), (4, _), (0, _)]) dX6_readQuality_64 rfl rfl (by decide) rfl ?_
            refine wa_goto (pc' := 6) dX6_readQuality_67 (by decide) ?_
            refine wa_sub [0, 2, 1, 5] rfl ?_
            (repeat' split at hR) <;> first | omega | exact ih (i + 1) _ _ _ (by omega) (by omega) (by omega) (by omega) hR
          · refine wa_aload_n (pc' := 58) dX6_readQuality_57 rfl rfl rfl ?_
            refine wa_iload_n (pc' := 59) dX6_readQuality_58 rfl rfl rfl ?_
            refine wa_putfield (pc' := 62) (j := 3) (w' := [zO _ [_, _, _, _, _, _], _, _]) zc_X6 lk_X6_19 dX6_readQuality_59 rfl (by decide) rfl rfl (Nat.le_of_ble_eq_true rfl) True.intro rfl ?_
            refine wa_iconst (pc' := 63) dX6_readQuality_62 rfl ?_
            refine wa_istore_n (pc' := 64) (ls' := [(2, _), (1, _), (5, _), (4, _), (3, _), (0, _)]) dX6_readQuality_63 rfl rfl (by decide) rfl ?_
            refine wa_iinc (pc' := 67) (ls' := [(3, _), (2, _), (1, _), (5, _), (4, _), (0, _)]) dX6_readQuality_64 rfl rfl (by decide) rfl ?_
            refine wa_goto (pc' := 6) dX6_readQuality_67 (by decide) ?_
            refine wa_sub [0, 2, 1, 5] rfl ?_
            (repeat' split at hR) <;> first | omega | exact ih (i + 1) _ _ _ (by omega) (by omega) (by omega) (by omega) hR

set_option maxRecDepth 10000 in
set_option maxHeartbeats 1000000 in
theorem k_X6_readQuality (r : zRw) (st ro qu ba wh : Int) (hr : okT r) (hs : 0 ≤ st ∧ st ≤ 900) (hq : 0 ≤ qu ∧ qu < 10) : zMet q_X6_readQuality 5 0 0 [zR 0] (wRd r st ro qu ba wh) (zD (some (zI (quF (gT r) st qu).2.1)) (wRd r (st + (quF (gT r) st qu).1) ro (quF (gT r) st qu).2.2 ba wh)) := by
  refine z_introF (ls := [(0, _)]) (by decide +kernel) rfl (fun _ _ => rfl) (fun _ _ => Nat.le_of_ble_eq_true rfl) ?_
  have hB := quF_b (gT r) st qu hq
  refine wa_iconst (pc' := 1) dX6_readQuality_0 rfl ?_
  refine wa_istore_n (pc' := 2) (ls' := [(1, _), (0, _)]) dX6_readQuality_1 rfl rfl (by decide) rfl ?_
  refine wa_iconst (pc' := 3) dX6_readQuality_2 rfl ?_
  refine wa_istore_n (pc' := 4) (ls' := [(2, _), (1, _), (0, _)]) dX6_readQuality_3 rfl rfl (by decide) rfl ?_
  refine wa_iconst (pc' := 5) dX6_readQuality_4 rfl ?_
  refine wa_istore_n (pc' := 6) (ls' := [(3, _), (2, _), (1, _), (0, _)]) dX6_readQuality_5 rfl rfl (by decide) rfl ?_
  refine wa_sub [0, 2, 1, 3] rfl ?_
  exact l_readQ r st ro ba wh hr hs _ hB.1 hB.2.1 10 0 (-1) 0 qu (by omega) (by omega) (by omega) (by omega) rfl

set_option maxRecDepth 10000 in
set_option maxHeartbeats 1000000 in
theorem k_X6_readChord (r : zRw) (st ro qu ba wh : Int) (fr : Int) (hr : okT r) (hs : 0 ≤ fr ∧ fr ≤ 300) (hq : 0 ≤ qu ∧ qu < 10) : zMet q_X6_readChord 6 0 0 [zR 0, zI fr] (wRd r st ro qu ba wh) (zD none (wRd r (chR (gT r) fr qu).1 (chR (gT r) fr qu).2.1 (chR (gT r) fr qu).2.2.1 (chR (gT r) fr qu).2.2.2.1 (chR (gT r) fr qu).2.2.2.2)) := by
  refine z_introF (ls := [(0, _), (1, _)]) (by decide +kernel) rfl (fun _ _ => rfl) (fun _ _ => Nat.le_of_ble_eq_true rfl) ?_
  have n1 := ntR_b (gT r) fr
  have q1 := quF_b (gT r) (ntR (gT r) fr).2 qu hq
  have n2 := ntR_b (gT r) ((ntR (gT r) fr).2 + (quF (gT r) (ntR (gT r) fr).2 qu).1 + 1)
  have g1 := gT_b hr ((ntR (gT r) fr).2 + (quF (gT r) (ntR (gT r) fr).2 qu).1)
  have g2 := gT_b hr (ntR (gT r) fr).2
  refine wa_aload_n (pc' := 1) dX6_readChord_0 rfl rfl rfl ?_
  refine wa_iload_n (pc' := 2) dX6_readChord_1 rfl rfl rfl ?_
  refine wa_putfield (pc' := 5) (j := 1) (w' := [zO _ [_, _, _, _, _, _], _, _]) zc_X6 lk_X6_51 dX6_readChord_2 rfl (by decide) rfl rfl (Nat.le_of_ble_eq_true rfl) True.intro rfl ?_
  refine wa_aload_n (pc' := 6) dX6_readChord_5 rfl rfl rfl ?_
  refine wa_bipush (pc' := 8) dX6_readChord_6 rfl rfl ?_
  refine wa_putfield (pc' := 11) (j := 4) (w' := [zO _ [_, _, _, _, _, _], _, _]) zc_X6 lk_X6_22 dX6_readChord_8 rfl (by decide) rfl rfl (Nat.le_of_ble_eq_true rfl) True.intro rfl ?_
  refine wa_aload_n (pc' := 12) dX6_readChord_11 rfl rfl rfl ?_
  refine wa_aload_n (pc' := 13) dX6_readChord_12 rfl rfl rfl ?_
  refine wa_dV (pc' := 16) (w' := [zO _ [_, _, _, _, _, _], zO _ [_, _], zA _ _ _]) (k_X6_readNote _ _ _ _ _ _ (by assumption) (by omega)) ok_X6_readNote lm_X6_71 dX6_readChord_13 rfl [0, 1, 2] rfl (by decide) rfl rfl rfl rfl rfl (by decide) (Nat.le_of_ble_eq_true rfl) rfl (by decide) (by decide) rfl rfl rfl ?_
  refine wa_putfield (pc' := 19) (j := 2) (w' := [zO _ [_, _, _, _, _, _], _, _]) zc_X6 lk_X6_15 dX6_readChord_16 rfl (by decide) rfl rfl (Nat.le_of_ble_eq_true rfl) True.intro rfl ?_
  refine wa_aload_n (pc' := 20) dX6_readChord_19 rfl rfl rfl ?_
  refine wa_aload_n (pc' := 21) dX6_readChord_20 rfl rfl rfl ?_
  refine wa_getfield (pc' := 24) (j := 2) zc_X6 lk_X6_15 dX6_readChord_21 rfl (by decide) rfl rfl ?_
  refine wa_bipush (pc' := 26) dX6_readChord_24 rfl rfl ?_
  refine wa_icmp_eq (tgt := 40) (pc' := 29) dX6_readChord_26 (by decide) rfl (by omega) (by omega) (fun c26 => ?_) (fun c26 => ?_)
  · refine wa_iconst (pc' := 41) dX6_readChord_40 rfl ?_
    refine wa_putfield (pc' := 44) (j := 5) (w' := [zO _ [_, _, _, _, _, _], _, _]) zc_X6 lk_X6_47 dX6_readChord_41 rfl (by decide) rfl rfl (Nat.le_of_ble_eq_true rfl) (by show _ ∨ _; omega) rfl ?_
    refine wa_aload_n (pc' := 45) dX6_readChord_44 rfl rfl rfl ?_
    refine wa_getfield (pc' := 48) (j := 5) zc_X6 lk_X6_47 dX6_readChord_45 rfl (by decide) rfl rfl ?_
    refine wa_if_eq (tgt := 103) (pc' := 51) dX6_readChord_48 (by decide) rfl (by omega) (fun c48 => ?_) (fun c48 => ?_)
    · refine wa_vret dX6_readChord_103 rfl (by decide) (by decide) ?_
      first | exact absurd rfl c48 | exact absurd c48 (by decide) | exact zD_i rfl (by rw [chR, if_pos (by assumption)] <;> (try rw [c26]) <;> rfl) | exact zD_i rfl (by rw [chR, if_neg (by assumption), if_pos (by assumption)] <;> rfl) | exact zD_i rfl (by rw [chR, if_neg (by assumption), if_neg (by assumption), if_pos (by assumption), if_pos (by assumption)] <;> rfl) | exact zD_i rfl (by rw [chR, if_neg (by assumption), if_neg (by assumption), if_pos (by assumption), if_neg (by assumption)] <;> rfl) | exact zD_i rfl (by rw [chR, if_neg (by assumption), if_neg (by assumption), if_neg (by assumption)] <;> rfl)
    · refine wa_aload_n (pc' := 52) dX6_readChord_51 rfl rfl rfl ?_
      refine wa_getfield (pc' := 55) (j := 0) zc_X6 lk_X6_9 dX6_readChord_52 rfl (by decide) rfl rfl ?_
      refine wa_aload_n (pc' := 56) dX6_readChord_55 rfl rfl rfl ?_
      refine wa_getfield (pc' := 59) (j := 1) zc_X6 lk_X6_51 dX6_readChord_56 rfl (by decide) rfl rfl ?_
      refine wa_rV (pc' := 62) (k_X7_at r (by have := hr.1; omega) (by have := hr.2.1; omega) (_) (by omega)) ok_X7_at lm_X6_36 dX6_readChord_59 rfl [1, 2] rfl (by decide) rfl rfl rfl rfl rfl (by decide) (Nat.le_of_ble_eq_true rfl) rfl (by decide) (by decide) rfl ?_
      show Wa _ _ _ _ _ _ _ _ (zI (gT r (_)) :: _) _ _ _
      refine wa_bipush (pc' := 64) dX6_readChord_62 rfl rfl ?_
      refine wa_icmp_ne (tgt := 103) (pc' := 67) dX6_readChord_64 (by decide) rfl (by omega) (by omega) (fun c64 => ?_) (fun c64 => ?_)
      · refine wa_vret dX6_readChord_103 rfl (by decide) (by decide) ?_
        first | exact absurd rfl c48 | exact absurd c48 (by decide) | exact zD_i rfl (by rw [chR, if_pos (by assumption)] <;> (try rw [c26]) <;> rfl) | exact zD_i rfl (by rw [chR, if_neg (by assumption), if_pos (by assumption)] <;> rfl) | exact zD_i rfl (by rw [chR, if_neg (by assumption), if_neg (by assumption), if_pos (by assumption), if_pos (by assumption)] <;> rfl) | exact zD_i rfl (by rw [chR, if_neg (by assumption), if_neg (by assumption), if_pos (by assumption), if_neg (by assumption)] <;> rfl) | exact zD_i rfl (by rw [chR, if_neg (by assumption), if_neg (by assumption), if_neg (by assumption)] <;> rfl)
      · refine wa_aload_n (pc' := 68) dX6_readChord_67 rfl rfl rfl ?_
        refine wa_dup (pc' := 69) dX6_readChord_68 rfl rfl ?_
        refine wa_getfield (pc' := 72) (j := 1) zc_X6 lk_X6_51 dX6_readChord_69 rfl (by decide) rfl rfl ?_
        refine wa_iconst (pc' := 73) dX6_readChord_72 rfl ?_
        refine wa_iadd (pc' := 74) dX6_readChord_73 rfl ?_
        refine wa_putfield (pc' := 77) (j := 1) (w' := [zO _ [_, _, _, _, _, _], _, _]) zc_X6 lk_X6_51 dX6_readChord_74 rfl (by decide) rfl rfl (Nat.le_of_ble_eq_true rfl) True.intro rfl ?_
        refine wa_aload_n (pc' := 78) dX6_readChord_77 rfl rfl rfl ?_
        refine wa_aload_n (pc' := 79) dX6_readChord_78 rfl rfl rfl ?_
        refine wa_dV (pc' := 82) (w' := [zO _ [_, _, _, _, _, _], zO _ [_, _], zA _ _ _]) (k_X6_readNote _ _ _ _ _ _ (by assumption) (by omega)) ok_X6_readNote lm_X6_71 dX6_readChord_79 rfl [0, 1, 2] rfl (by decide) rfl rfl rfl rfl rfl (by decide) (Nat.le_of_ble_eq_true rfl) rfl (by decide) (by decide) rfl rfl rfl ?_
        refine wa_putfield (pc' := 85) (j := 4) (w' := [zO _ [_, _, _, _, _, _], _, _]) zc_X6 lk_X6_22 dX6_readChord_82 rfl (by decide) rfl rfl (Nat.le_of_ble_eq_true rfl) True.intro rfl ?_
        refine wa_aload_n (pc' := 86) dX6_readChord_85 rfl rfl rfl ?_
        refine wa_aload_n (pc' := 87) dX6_readChord_86 rfl rfl rfl ?_
        refine wa_getfield (pc' := 90) (j := 4) zc_X6 lk_X6_22 dX6_readChord_87 rfl (by decide) rfl rfl ?_
        refine wa_bipush (pc' := 92) dX6_readChord_90 rfl rfl ?_
        refine wa_icmp_eq (tgt := 99) (pc' := 95) dX6_readChord_92 (by decide) rfl (by omega) (by omega) (fun c92 => ?_) (fun c92 => ?_)
        · refine wa_iconst (pc' := 100) dX6_readChord_99 rfl ?_
          refine wa_putfield (pc' := 103) (j := 5) (w' := [zO _ [_, _, _, _, _, _], _, _]) zc_X6 lk_X6_47 dX6_readChord_100 rfl (by decide) rfl rfl (Nat.le_of_ble_eq_true rfl) (by show _ ∨ _; omega) rfl ?_
          refine wa_vret dX6_readChord_103 rfl (by decide) (by decide) ?_
          first | exact absurd rfl c48 | exact absurd c48 (by decide) | exact zD_i rfl (by rw [chR, if_pos (by assumption)] <;> (try rw [c26]) <;> rfl) | exact zD_i rfl (by rw [chR, if_neg (by assumption), if_pos (by assumption)] <;> rfl) | exact zD_i rfl (by rw [chR, if_neg (by assumption), if_neg (by assumption), if_pos (by assumption), if_pos (by assumption)] <;> rfl) | exact zD_i rfl (by rw [chR, if_neg (by assumption), if_neg (by assumption), if_pos (by assumption), if_neg (by assumption)] <;> rfl) | exact zD_i rfl (by rw [chR, if_neg (by assumption), if_neg (by assumption), if_neg (by assumption)] <;> rfl)
        · refine wa_iconst (pc' := 96) dX6_readChord_95 rfl ?_
          refine wa_goto (pc' := 100) dX6_readChord_96 (by decide) ?_
          refine wa_putfield (pc' := 103) (j := 5) (w' := [zO _ [_, _, _, _, _, _], _, _]) zc_X6 lk_X6_47 dX6_readChord_100 rfl (by decide) rfl rfl (Nat.le_of_ble_eq_true rfl) (by show _ ∨ _; omega) rfl ?_
          refine wa_vret dX6_readChord_103 rfl (by decide) (by decide) ?_
          first | exact absurd rfl c48 | exact absurd c48 (by decide) | exact zD_i rfl (by rw [chR, if_pos (by assumption)] <;> (try rw [c26]) <;> rfl) | exact zD_i rfl (by rw [chR, if_neg (by assumption), if_pos (by assumption)] <;> rfl) | exact zD_i rfl (by rw [chR, if_neg (by assumption), if_neg (by assumption), if_pos (by assumption), if_pos (by assumption)] <;> rfl) | exact zD_i rfl (by rw [chR, if_neg (by assumption), if_neg (by assumption), if_pos (by assumption), if_neg (by assumption)] <;> rfl) | exact zD_i rfl (by rw [chR, if_neg (by assumption), if_neg (by assumption), if_neg (by assumption)] <;> rfl)
  · refine wa_aload_n (pc' := 30) dX6_readChord_29 rfl rfl rfl ?_
    refine wa_dV (pc' := 33) (w' := [zO _ [_, _, _, _, _, _], zO _ [_, _], zA _ _ _]) (k_X6_readQuality _ _ _ _ _ _ (by assumption) (by omega) (by omega)) ok_X6_readQuality lm_X6_74 dX6_readChord_30 rfl [0, 1, 2] rfl (by decide) rfl rfl rfl rfl rfl (by decide) (Nat.le_of_ble_eq_true rfl) rfl (by decide) (by decide) rfl rfl rfl ?_
    refine wa_if_eq (tgt := 40) (pc' := 36) dX6_readChord_33 (by decide) rfl (by omega) (fun c33 => ?_) (fun c33 => ?_)
    · refine wa_iconst (pc' := 41) dX6_readChord_40 rfl ?_
      refine wa_putfield (pc' := 44) (j := 5) (w' := [zO _ [_, _, _, _, _, _], _, _]) zc_X6 lk_X6_47 dX6_readChord_41 rfl (by decide) rfl rfl (Nat.le_of_ble_eq_true rfl) (by show _ ∨ _; omega) rfl ?_
      refine wa_aload_n (pc' := 45) dX6_readChord_44 rfl rfl rfl ?_
      refine wa_getfield (pc' := 48) (j := 5) zc_X6 lk_X6_47 dX6_readChord_45 rfl (by decide) rfl rfl ?_
      refine wa_if_eq (tgt := 103) (pc' := 51) dX6_readChord_48 (by decide) rfl (by omega) (fun c48 => ?_) (fun c48 => ?_)
      · refine wa_vret dX6_readChord_103 rfl (by decide) (by decide) ?_
        first | exact absurd rfl c48 | exact absurd c48 (by decide) | exact zD_i rfl (by rw [chR, if_pos (by assumption)] <;> (try rw [c26]) <;> rfl) | exact zD_i rfl (by rw [chR, if_neg (by assumption), if_pos (by assumption)] <;> rfl) | exact zD_i rfl (by rw [chR, if_neg (by assumption), if_neg (by assumption), if_pos (by assumption), if_pos (by assumption)] <;> rfl) | exact zD_i rfl (by rw [chR, if_neg (by assumption), if_neg (by assumption), if_pos (by assumption), if_neg (by assumption)] <;> rfl) | exact zD_i rfl (by rw [chR, if_neg (by assumption), if_neg (by assumption), if_neg (by assumption)] <;> rfl)
      · refine wa_aload_n (pc' := 52) dX6_readChord_51 rfl rfl rfl ?_
        refine wa_getfield (pc' := 55) (j := 0) zc_X6 lk_X6_9 dX6_readChord_52 rfl (by decide) rfl rfl ?_
        refine wa_aload_n (pc' := 56) dX6_readChord_55 rfl rfl rfl ?_
        refine wa_getfield (pc' := 59) (j := 1) zc_X6 lk_X6_51 dX6_readChord_56 rfl (by decide) rfl rfl ?_
        refine wa_rV (pc' := 62) (k_X7_at r (by have := hr.1; omega) (by have := hr.2.1; omega) (_) (by omega)) ok_X7_at lm_X6_36 dX6_readChord_59 rfl [1, 2] rfl (by decide) rfl rfl rfl rfl rfl (by decide) (Nat.le_of_ble_eq_true rfl) rfl (by decide) (by decide) rfl ?_
        show Wa _ _ _ _ _ _ _ _ (zI (gT r (_)) :: _) _ _ _
        refine wa_bipush (pc' := 64) dX6_readChord_62 rfl rfl ?_
        refine wa_icmp_ne (tgt := 103) (pc' := 67) dX6_readChord_64 (by decide) rfl (by omega) (by omega) (fun c64 => ?_) (fun c64 => ?_)
        · refine wa_vret dX6_readChord_103 rfl (by decide) (by decide) ?_
          first | exact absurd rfl c48 | exact absurd c48 (by decide) | exact zD_i rfl (by rw [chR, if_pos (by assumption)] <;> (try rw [c26]) <;> rfl) | exact zD_i rfl (by rw [chR, if_neg (by assumption), if_pos (by assumption)] <;> rfl) | exact zD_i rfl (by rw [chR, if_neg (by assumption), if_neg (by assumption), if_pos (by assumption), if_pos (by assumption)] <;> rfl) | exact zD_i rfl (by rw [chR, if_neg (by assumption), if_neg (by assumption), if_pos (by assumption), if_neg (by assumption)] <;> rfl) | exact zD_i rfl (by rw [chR, if_neg (by assumption), if_neg (by assumption), if_neg (by assumption)] <;> rfl)
        · refine wa_aload_n (pc' := 68) dX6_readChord_67 rfl rfl rfl ?_
          refine wa_dup (pc' := 69) dX6_readChord_68 rfl rfl ?_
          refine wa_getfield (pc' := 72) (j := 1) zc_X6 lk_X6_51 dX6_readChord_69 rfl (by decide) rfl rfl ?_
          refine wa_iconst (pc' := 73) dX6_readChord_72 rfl ?_
          refine wa_iadd (pc' := 74) dX6_readChord_73 rfl ?_
          refine wa_putfield (pc' := 77) (j := 1) (w' := [zO _ [_, _, _, _, _, _], _, _]) zc_X6 lk_X6_51 dX6_readChord_74 rfl (by decide) rfl rfl (Nat.le_of_ble_eq_true rfl) True.intro rfl ?_
          refine wa_aload_n (pc' := 78) dX6_readChord_77 rfl rfl rfl ?_
          refine wa_aload_n (pc' := 79) dX6_readChord_78 rfl rfl rfl ?_
          refine wa_dV (pc' := 82) (w' := [zO _ [_, _, _, _, _, _], zO _ [_, _], zA _ _ _]) (k_X6_readNote _ _ _ _ _ _ (by assumption) (by omega)) ok_X6_readNote lm_X6_71 dX6_readChord_79 rfl [0, 1, 2] rfl (by decide) rfl rfl rfl rfl rfl (by decide) (Nat.le_of_ble_eq_true rfl) rfl (by decide) (by decide) rfl rfl rfl ?_
          refine wa_putfield (pc' := 85) (j := 4) (w' := [zO _ [_, _, _, _, _, _], _, _]) zc_X6 lk_X6_22 dX6_readChord_82 rfl (by decide) rfl rfl (Nat.le_of_ble_eq_true rfl) True.intro rfl ?_
          refine wa_aload_n (pc' := 86) dX6_readChord_85 rfl rfl rfl ?_
          refine wa_aload_n (pc' := 87) dX6_readChord_86 rfl rfl rfl ?_
          refine wa_getfield (pc' := 90) (j := 4) zc_X6 lk_X6_22 dX6_readChord_87 rfl (by decide) rfl rfl ?_
          refine wa_bipush (pc' := 92) dX6_readChord_90 rfl rfl ?_
          refine wa_icmp_eq (tgt := 99) (pc' := 95) dX6_readChord_92 (by decide) rfl (by omega) (by omega) (fun c92 => ?_) (fun c92 => ?_)
          · refine wa_iconst (pc' := 100) dX6_readChord_99 rfl ?_
            refine wa_putfield (pc' := 103) (j := 5) (w' := [zO _ [_, _, _, _, _, _], _, _]) zc_X6 lk_X6_47 dX6_readChord_100 rfl (by decide) rfl rfl (Nat.le_of_ble_eq_true rfl) (by show _ ∨ _; omega) rfl ?_
            refine wa_vret dX6_readChord_103 rfl (by decide) (by decide) ?_
            first | exact absurd rfl c48 | exact absurd c48 (by decide) | exact zD_i rfl (by rw [chR, if_pos (by assumption)] <;> (try rw [c26]) <;> rfl) | exact zD_i rfl (by rw [chR, if_neg (by assumption), if_pos (by assumption)] <;> rfl) | exact zD_i rfl (by rw [chR, if_neg (by assumption), if_neg (by assumption), if_pos (by assumption), if_pos (by assumption)] <;> rfl) | exact zD_i rfl (by rw [chR, if_neg (by assumption), if_neg (by assumption), if_pos (by assumption), if_neg (by assumption)] <;> rfl) | exact zD_i rfl (by rw [chR, if_neg (by assumption), if_neg (by assumption), if_neg (by assumption)] <;> rfl)
          · refine wa_iconst (pc' := 96) dX6_readChord_95 rfl ?_
            refine wa_goto (pc' := 100) dX6_readChord_96 (by decide) ?_
            refine wa_putfield (pc' := 103) (j := 5) (w' := [zO _ [_, _, _, _, _, _], _, _]) zc_X6 lk_X6_47 dX6_readChord_100 rfl (by decide) rfl rfl (Nat.le_of_ble_eq_true rfl) (by show _ ∨ _; omega) rfl ?_
            refine wa_vret dX6_readChord_103 rfl (by decide) (by decide) ?_
            first | exact absurd rfl c48 | exact absurd c48 (by decide) | exact zD_i rfl (by rw [chR, if_pos (by assumption)] <;> (try rw [c26]) <;> rfl) | exact zD_i rfl (by rw [chR, if_neg (by assumption), if_pos (by assumption)] <;> rfl) | exact zD_i rfl (by rw [chR, if_neg (by assumption), if_neg (by assumption), if_pos (by assumption), if_pos (by assumption)] <;> rfl) | exact zD_i rfl (by rw [chR, if_neg (by assumption), if_neg (by assumption), if_pos (by assumption), if_neg (by assumption)] <;> rfl) | exact zD_i rfl (by rw [chR, if_neg (by assumption), if_neg (by assumption), if_neg (by assumption)] <;> rfl)
    · refine wa_iconst (pc' := 37) dX6_readChord_36 rfl ?_
      refine wa_goto (pc' := 41) dX6_readChord_37 (by decide) ?_
      refine wa_putfield (pc' := 44) (j := 5) (w' := [zO _ [_, _, _, _, _, _], _, _]) zc_X6 lk_X6_47 dX6_readChord_41 rfl (by decide) rfl rfl (Nat.le_of_ble_eq_true rfl) (by show _ ∨ _; omega) rfl ?_
      refine wa_aload_n (pc' := 45) dX6_readChord_44 rfl rfl rfl ?_
      refine wa_getfield (pc' := 48) (j := 5) zc_X6 lk_X6_47 dX6_readChord_45 rfl (by decide) rfl rfl ?_
      refine wa_if_eq (tgt := 103) (pc' := 51) dX6_readChord_48 (by decide) rfl (by omega) (fun c48 => ?_) (fun c48 => ?_)
      · refine wa_vret dX6_readChord_103 rfl (by decide) (by decide) ?_
        first | exact absurd rfl c48 | exact absurd c48 (by decide) | exact zD_i rfl (by rw [chR, if_pos (by assumption)] <;> (try rw [c26]) <;> rfl) | exact zD_i rfl (by rw [chR, if_neg (by assumption), if_pos (by assumption)] <;> rfl) | exact zD_i rfl (by rw [chR, if_neg (by assumption), if_neg (by assumption), if_pos (by assumption), if_pos (by assumption)] <;> rfl) | exact zD_i rfl (by rw [chR, if_neg (by assumption), if_neg (by assumption), if_pos (by assumption), if_neg (by assumption)] <;> rfl) | exact zD_i rfl (by rw [chR, if_neg (by assumption), if_neg (by assumption), if_neg (by assumption)] <;> rfl)
      · refine wa_aload_n (pc' := 52) dX6_readChord_51 rfl rfl rfl ?_
        refine wa_getfield (pc' := 55) (j := 0) zc_X6 lk_X6_9 dX6_readChord_52 rfl (by decide) rfl rfl ?_
        refine wa_aload_n (pc' := 56) dX6_readChord_55 rfl rfl rfl ?_
        refine wa_getfield (pc' := 59) (j := 1) zc_X6 lk_X6_51 dX6_readChord_56 rfl (by decide) rfl rfl ?_
        refine wa_rV (pc' := 62) (k_X7_at r (by have := hr.1; omega) (by have := hr.2.1; omega) (_) (by omega)) ok_X7_at lm_X6_36 dX6_readChord_59 rfl [1, 2] rfl (by decide) rfl rfl rfl rfl rfl (by decide) (Nat.le_of_ble_eq_true rfl) rfl (by decide) (by decide) rfl ?_
        show Wa _ _ _ _ _ _ _ _ (zI (gT r (_)) :: _) _ _ _
        refine wa_bipush (pc' := 64) dX6_readChord_62 rfl rfl ?_
        refine wa_icmp_ne (tgt := 103) (pc' := 67) dX6_readChord_64 (by decide) rfl (by omega) (by omega) (fun c64 => ?_) (fun c64 => ?_)
        · refine wa_vret dX6_readChord_103 rfl (by decide) (by decide) ?_
          first | exact absurd rfl c48 | exact absurd c48 (by decide) | exact zD_i rfl (by rw [chR, if_pos (by assumption)] <;> (try rw [c26]) <;> rfl) | exact zD_i rfl (by rw [chR, if_neg (by assumption), if_pos (by assumption)] <;> rfl) | exact zD_i rfl (by rw [chR, if_neg (by assumption), if_neg (by assumption), if_pos (by assumption), if_pos (by assumption)] <;> rfl) | exact zD_i rfl (by rw [chR, if_neg (by assumption), if_neg (by assumption), if_pos (by assumption), if_neg (by assumption)] <;> rfl) | exact zD_i rfl (by rw [chR, if_neg (by assumption), if_neg (by assumption), if_neg (by assumption)] <;> rfl)
        · refine wa_aload_n (pc' := 68) dX6_readChord_67 rfl rfl rfl ?_
          refine wa_dup (pc' := 69) dX6_readChord_68 rfl rfl ?_
          refine wa_getfield (pc' := 72) (j := 1) zc_X6 lk_X6_51 dX6_readChord_69 rfl (by decide) rfl rfl ?_
          refine wa_iconst (pc' := 73) dX6_readChord_72 rfl ?_
          refine wa_iadd (pc' := 74) dX6_readChord_73 rfl ?_
          refine wa_putfield (pc' := 77) (j := 1) (w' := [zO _ [_, _, _, _, _, _], _, _]) zc_X6 lk_X6_51 dX6_readChord_74 rfl (by decide) rfl rfl (Nat.le_of_ble_eq_true rfl) True.intro rfl ?_
          refine wa_aload_n (pc' := 78) dX6_readChord_77 rfl rfl rfl ?_
          refine wa_aload_n (pc' := 79) dX6_readChord_78 rfl rfl rfl ?_
          refine wa_dV (pc' := 82) (w' := [zO _ [_, _, _, _, _, _], zO _ [_, _], zA _ _ _]) (k_X6_readNote _ _ _ _ _ _ (by assumption) (by omega)) ok_X6_readNote lm_X6_71 dX6_readChord_79 rfl [0, 1, 2] rfl (by decide) rfl rfl rfl rfl rfl (by decide) (Nat.le_of_ble_eq_true rfl) rfl (by decide) (by decide) rfl rfl rfl ?_
          refine wa_putfield (pc' := 85) (j := 4) (w' := [zO _ [_, _, _, _, _, _], _, _]) zc_X6 lk_X6_22 dX6_readChord_82 rfl (by decide) rfl rfl (Nat.le_of_ble_eq_true rfl) True.intro rfl ?_
          refine wa_aload_n (pc' := 86) dX6_readChord_85 rfl rfl rfl ?_
          refine wa_aload_n (pc' := 87) dX6_readChord_86 rfl rfl rfl ?_
          refine wa_getfield (pc' := 90) (j := 4) zc_X6 lk_X6_22 dX6_readChord_87 rfl (by decide) rfl rfl ?_
          refine wa_bipush (pc' := 92) dX6_readChord_90 rfl rfl ?_
          refine wa_icmp_eq (tgt := 99) (pc' := 95) dX6_readChord_92 (by decide) rfl (by omega) (by omega) (fun c92 => ?_) (fun c92 => ?_)
          · refine wa_iconst (pc' := 100) dX6_readChord_99 rfl ?_
            refine wa_putfield (pc' := 103) (j := 5) (w' := [zO _ [_, _, _, _, _, _], _, _]) zc_X6 lk_X6_47 dX6_readChord_100 rfl (by decide) rfl rfl (Nat.le_of_ble_eq_true rfl) (by show _ ∨ _; omega) rfl ?_
            refine wa_vret dX6_readChord_103 rfl (by decide) (by decide) ?_
            first | exact absurd rfl c48 | exact absurd c48 (by decide) | exact zD_i rfl (by rw [chR, if_pos (by assumption)] <;> (try rw [c26]) <;> rfl) | exact zD_i rfl (by rw [chR, if_neg (by assumption), if_pos (by assumption)] <;> rfl) | exact zD_i rfl (by rw [chR, if_neg (by assumption), if_neg (by assumption), if_pos (by assumption), if_pos (by assumption)] <;> rfl) | exact zD_i rfl (by rw [chR, if_neg (by assumption), if_neg (by assumption), if_pos (by assumption), if_neg (by assumption)] <;> rfl) | exact zD_i rfl (by rw [chR, if_neg (by assumption), if_neg (by assumption), if_neg (by assumption)] <;> rfl)
          · refine wa_iconst (pc' := 96) dX6_readChord_95 rfl ?_
            refine wa_goto (pc' := 100) dX6_readChord_96 (by decide) ?_
            refine wa_putfield (pc' := 103) (j := 5) (w' := [zO _ [_, _, _, _, _, _], _, _]) zc_X6 lk_X6_47 dX6_readChord_100 rfl (by decide) rfl rfl (Nat.le_of_ble_eq_true rfl) (by show _ ∨ _; omega) rfl ?_
            refine wa_vret dX6_readChord_103 rfl (by decide) (by decide) ?_
            first | exact absurd rfl c48 | exact absurd c48 (by decide) | exact zD_i rfl (by rw [chR, if_pos (by assumption)] <;> (try rw [c26]) <;> rfl) | exact zD_i rfl (by rw [chR, if_neg (by assumption), if_pos (by assumption)] <;> rfl) | exact zD_i rfl (by rw [chR, if_neg (by assumption), if_neg (by assumption), if_pos (by assumption), if_pos (by assumption)] <;> rfl) | exact zD_i rfl (by rw [chR, if_neg (by assumption), if_neg (by assumption), if_pos (by assumption), if_neg (by assumption)] <;> rfl) | exact zD_i rfl (by rw [chR, if_neg (by assumption), if_neg (by assumption), if_neg (by assumption)] <;> rfl)

set_option maxRecDepth 10000 in
set_option maxHeartbeats 1000000 in
theorem k_X6_readSingleChord (r : zRw) (st ro qu ba wh : Int) (hr : okT r) (hq : 0 ≤ qu ∧ qu < 10) : zMet q_X6_readSingleChord 7 0 0 [zR 0] (wRd r st ro qu ba wh) (zD (some (zI (if (chR (gT r) 0 qu).2.2.2.2 = 1 ∧ (chR (gT r) 0 qu).1 = r.1 then -1 else (chR (gT r) 0 qu).1))) (wRd r (chR (gT r) 0 qu).1 (chR (gT r) 0 qu).2.1 (chR (gT r) 0 qu).2.2.1 (chR (gT r) 0 qu).2.2.2.1 (chR (gT r) 0 qu).2.2.2.2)) := by
  refine z_introF (ls := [(0, _)]) (by decide +kernel) rfl (fun _ _ => rfl) (fun _ _ => Nat.le_of_ble_eq_true rfl) ?_
  have c1 := chR_b (gT r) 0 qu hq
  have h1 := hr.1
  have h2 := hr.2.1
  refine wa_aload_n (pc' := 1) dX6_readSingleChord_0 rfl rfl rfl ?_
  refine wa_iconst (pc' := 2) dX6_readSingleChord_1 rfl ?_
  refine wa_dV (pc' := 5) (w' := [zO _ [_, _, _, _, _, _], zO _ [_, _], zA _ _ _]) (k_X6_readChord _ _ _ _ _ _ _ (by assumption) (by omega) (by omega)) ok_X6_readChord lm_X6_43 dX6_readSingleChord_2 rfl [0, 1, 2] rfl (by decide) rfl rfl rfl rfl rfl (by decide) (Nat.le_of_ble_eq_true rfl) rfl (by decide) (by decide) rfl rfl rfl ?_
  refine wa_aload_n (pc' := 6) dX6_readSingleChord_5 rfl rfl rfl ?_
  refine wa_getfield (pc' := 9) (j := 5) zc_X6 lk_X6_47 dX6_readSingleChord_6 rfl (by decide) rfl rfl ?_
  refine wa_if_eq (tgt := 30) (pc' := 12) dX6_readSingleChord_9 (by decide) rfl (by omega) (fun c9 => ?_) (fun c9 => ?_)
  · refine wa_aload_n (pc' := 31) dX6_readSingleChord_30 rfl rfl rfl ?_
    refine wa_getfield (pc' := 34) (j := 1) zc_X6 lk_X6_51 dX6_readSingleChord_31 rfl (by decide) rfl rfl ?_
    refine wa_iret dX6_readSingleChord_34 rfl (by decide) (by decide) ?_
    first | exact zD_i (by rw [if_pos ⟨by omega, by omega⟩]) rfl | exact zD_i (by rw [if_neg (fun h => by omega)]) rfl
  · refine wa_aload_n (pc' := 13) dX6_readSingleChord_12 rfl rfl rfl ?_
    refine wa_getfield (pc' := 16) (j := 1) zc_X6 lk_X6_51 dX6_readSingleChord_13 rfl (by decide) rfl rfl ?_
    refine wa_aload_n (pc' := 17) dX6_readSingleChord_16 rfl rfl rfl ?_
    refine wa_getfield (pc' := 20) (j := 0) zc_X6 lk_X6_9 dX6_readSingleChord_17 rfl (by decide) rfl rfl ?_
    refine wa_rV (pc' := 23) (k_X7_size _) ok_X7_size lm_X6_30 dX6_readSingleChord_20 rfl [1, 2] rfl (by decide) rfl rfl rfl rfl rfl (by decide) (Nat.le_of_ble_eq_true rfl) rfl (by decide) (by decide) rfl ?_
    refine wa_icmp_ne (tgt := 30) (pc' := 26) dX6_readSingleChord_23 (by decide) rfl (by omega) (by omega) (fun c23 => ?_) (fun c23 => ?_)
    · refine wa_aload_n (pc' := 31) dX6_readSingleChord_30 rfl rfl rfl ?_
      refine wa_getfield (pc' := 34) (j := 1) zc_X6 lk_X6_51 dX6_readSingleChord_31 rfl (by decide) rfl rfl ?_
      refine wa_iret dX6_readSingleChord_34 rfl (by decide) (by decide) ?_
      first | exact zD_i (by rw [if_pos ⟨by omega, by omega⟩]) rfl | exact zD_i (by rw [if_neg (fun h => by omega)]) rfl
    · refine wa_iconst (pc' := 27) dX6_readSingleChord_26 rfl ?_
      refine wa_goto (pc' := 34) dX6_readSingleChord_27 (by decide) ?_
      refine wa_iret dX6_readSingleChord_34 rfl (by decide) (by decide) ?_
      first | exact zD_i (by rw [if_pos ⟨by omega, by omega⟩]) rfl | exact zD_i (by rw [if_neg (fun h => by omega)]) rfl

/-! Reader.readSheet -/
abbrev zKd : Type := Int × Int × Int × Int × Int
def shAdd (s : zSh) (c : Int) : zSh := (zup s.1 (s.2.1 s.2.2.2.1) c, zup s.2.1 s.2.2.2.1 (s.2.1 s.2.2.2.1 + 1), s.2.2)
def shLine (s : zSh) : zSh := (s.1, zup s.2.1 (s.2.2.2.1 + 1) (s.2.1 s.2.2.2.1), s.2.2.1, s.2.2.2.1 + 1, s.2.2.2.2)
def shApp (s : zSh) (r q b : Int) : zSh := (s.1, s.2.1, insF s.2.2.1 (cUT s.2.2.1 (s.2.2.2.1 - 1) (s.2.1 (s.2.2.2.1 - 1 + 1) - s.2.1 (s.2.2.2.1 - 1)) s.2.2.2.2.1.toNat 0) s.2.2.2.2.1 (s.2.2.2.1 - 1) (s.2.1 (s.2.2.2.1 - 1 + 1) - s.2.1 (s.2.2.2.1 - 1)) r q b, s.2.2.2.1, s.2.2.2.2.1 + 1, s.2.2.2.2.2)
def shClr (s : zSh) : zSh := (s.1, zup (zup s.2.1 0 0) 1 0, s.2.2.1, 1, 0, s.2.2.2.2.2)
/-- the bounds that a sheet keeps while i letters have been read -/
def okD (i : Int) (s : zSh) : Prop := (1 ≤ s.2.2.2.1 ∧ s.2.2.2.1 ≤ i + 1) ∧ (0 ≤ s.2.1 s.2.2.2.1 ∧ s.2.1 s.2.2.2.1 ≤ i) ∧ (∀ k : Int, 0 ≤ k → k ≤ 201 → 0 ≤ s.2.1 k ∧ s.2.1 k ≤ 200) ∧ (0 ≤ s.2.2.2.2.1 ∧ s.2.2.2.2.1 ≤ 40) ∧ (∀ j : Int, 0 ≤ j → j < 200 → -1000 ≤ s.2.2.1 j ∧ s.2.2.1 j ≤ 1000) ∧ (∀ j : Int, 0 ≤ j → j < 200 → 0 ≤ s.1 j ∧ s.1 j < 65536)
theorem okD_le {i k : Int} {s : zSh} (h : okD i s) (hk : i ≤ k) : okD k s := ⟨⟨h.1.1, by have := h.1.2; omega⟩, ⟨h.2.1.1, by have := h.2.1.2; omega⟩, h.2.2⟩
theorem zup_b {f : Int → Int} {a b lo hi j v : Int} (h : ∀ k : Int, a ≤ k → k < b → lo ≤ f k ∧ f k ≤ hi) (hv : lo ≤ v ∧ v ≤ hi) : ∀ k : Int, a ≤ k → k < b → lo ≤ zup f j v k ∧ zup f j v k ≤ hi := by
  intro k h0 h1
  unfold zup
  split
  · exact hv
  · exact h k h0 h1
theorem okD_add {i : Int} {s : zSh} (h : okD i s) (hi : i < 200) (c : Int) (hc : 0 ≤ c ∧ c < 65536) : okD (i + 1) (shAdd s c) := by
  obtain ⟨⟨a1, a2⟩, ⟨b1, b2⟩, h3, h4, h5, h6⟩ := h
  refine ⟨⟨a1, by show s.2.2.2.1 ≤ _; omega⟩, ?_, ?_, h4, h5, ?_⟩
  · show 0 ≤ zup s.2.1 s.2.2.2.1 _ s.2.2.2.1 ∧ zup s.2.1 s.2.2.2.1 _ s.2.2.2.1 ≤ _
    unfold zup
    rw [if_pos rfl]
    omega
  · intro k h0 h1
    exact zup_b (a := 0) (b := 202) (fun k h0 h1 => h3 k h0 (by omega)) (by omega) k h0 (by omega)
  · intro j h0 h1
    have := zup_b (f := s.1) (a := 0) (b := 200) (lo := 0) (hi := 65535) (j := s.2.1 s.2.2.2.1) (v := c) (fun k h0 h1 => by have := h6 k h0 h1; omega) (by omega) j h0 h1
    show 0 ≤ zup s.1 (s.2.1 s.2.2.2.1) c j ∧ zup s.1 (s.2.1 s.2.2.2.1) c j < 65536
    omega
theorem okD_line {i : Int} {s : zSh} (h : okD i s) (hi : i < 200) : okD (i + 1) (shLine s) := by
  obtain ⟨⟨a1, a2⟩, ⟨b1, b2⟩, h3, h4, h5, h6⟩ := h
  refine ⟨⟨by show 1 ≤ s.2.2.2.1 + 1; omega, by show s.2.2.2.1 + 1 ≤ _; omega⟩, ?_, ?_, h4, h5, h6⟩
  · show 0 ≤ zup s.2.1 (s.2.2.2.1 + 1) (s.2.1 s.2.2.2.1) (s.2.2.2.1 + 1) ∧ zup s.2.1 (s.2.2.2.1 + 1) (s.2.1 s.2.2.2.1) (s.2.2.2.1 + 1) ≤ _
    unfold zup
    rw [if_pos rfl]
    omega
  · intro k h0 h1
    exact zup_b (a := 0) (b := 202) (fun k h0 h1 => h3 k h0 (by omega)) (by omega) k h0 (by omega)
theorem insF_b {F : Int → Int} {i cc l k r q b : Int} (hF : ∀ j : Int, 0 ≤ j → j < 200 → -1000 ≤ F j ∧ F j ≤ 1000) (hi : 0 ≤ i ∧ i ≤ cc) (hc : cc < 40) (hl : -1000 ≤ l ∧ l ≤ 1000) (hk : -1000 ≤ k ∧ k ≤ 1000) (hr : -1000 ≤ r ∧ r ≤ 1000) (hq : -1000 ≤ q ∧ q ≤ 1000) (hb : -1000 ≤ b ∧ b ≤ 1000) : ∀ j : Int, 0 ≤ j → j < 200 → -1000 ≤ insF F i cc l k r q b j ∧ insF F i cc l k r q b j ≤ 1000 := by
  unfold insF putF
  refine zup_b (zup_b (zup_b (zup_b (zup_b ?_ hl) hk) hr) hq) hb
  intro j h0 h1
  unfold zcpy
  split
  · exact hF _ (by omega) (by omega)
  · exact hF j h0 h1
theorem okD_app {i : Int} {s : zSh} (h : okD i s) (hi : i ≤ 200) (hc : s.2.2.2.2.1 < 40) (r q b : Int) (hr : -1000 ≤ r ∧ r ≤ 1000) (hq : -1000 ≤ q ∧ q ≤ 1000) (hb : -1000 ≤ b ∧ b ≤ 1000) : okD i (shApp s r q b) := by
  obtain ⟨⟨a1, a2⟩, ⟨b1, b2⟩, h3, h4, h5, h6⟩ := h
  have t1 := h3 (s.2.2.2.1 - 1) (by omega) (by omega)
  have t2 := h3 (s.2.2.2.1 - 1 + 1) (by omega) (by omega)
  have hu := cUT_le s.2.2.1 (s.2.2.2.1 - 1) (s.2.1 (s.2.2.2.1 - 1 + 1) - s.2.1 (s.2.2.2.1 - 1)) s.2.2.2.2.1.toNat 0
  exact ⟨⟨a1, a2⟩, ⟨b1, b2⟩, h3, ⟨by show 0 ≤ s.2.2.2.2.1 + 1; omega, by show s.2.2.2.2.1 + 1 ≤ 40; omega⟩, insF_b h5 (by omega) (by omega) (by omega) (by omega) hr hq hb, h6⟩
theorem okD_clr {i : Int} {s : zSh} (h : okD i s) : okD 0 (shClr s) := by
  obtain ⟨⟨a1, a2⟩, ⟨b1, b2⟩, h3, h4, h5, h6⟩ := h
  refine ⟨⟨by show (1 : Int) ≤ 1; omega, by show (1 : Int) ≤ _; omega⟩, ?_, ?_, ⟨by show (0 : Int) ≤ 0; omega, by show (0 : Int) ≤ _; omega⟩, h5, h6⟩
  · show 0 ≤ zup (zup s.2.1 0 0) 1 0 1 ∧ zup (zup s.2.1 0 0) 1 0 1 ≤ 0
    unfold zup
    rw [if_pos rfl]
    omega
  · intro k h0 h1
    exact zup_b (a := 0) (b := 202) (zup_b (fun k h0 h1 => h3 k h0 (by omega)) (by omega)) (by omega) k h0 (by omega)
/-- readSheet from the letter i on: the answer, the sheet, the reader's stop, root, quality, bass, whole -/
def rdS (g : Int → Int) (n : Int) : Nat → Int → zSh → zKd → Int × zSh × zKd
  | 0, _, s, k => (-1, s, k)
  | m + 1, i, s, k =>
    if n ≤ i then (-1, s, k)
    else if g i = 93 then (i, s, k)
    else if g i = 91 then
      (if 40 ≤ s.2.2.2.2.1 then (i, s, k)
       else if (chR g (i + 1) k.2.2.1).2.2.2.2 = 0 then ((chR g (i + 1) k.2.2.1).1, s, chR g (i + 1) k.2.2.1)
       else if g (chR g (i + 1) k.2.2.1).1 = 93 then rdS g n m ((chR g (i + 1) k.2.2.1).1 + 1) (shApp s (chR g (i + 1) k.2.2.1).2.1 (chR g (i + 1) k.2.2.1).2.2.1 (chR g (i + 1) k.2.2.1).2.2.2.1) (chR g (i + 1) k.2.2.1)
       else ((chR g (i + 1) k.2.2.1).1, s, chR g (i + 1) k.2.2.1))
    else if g i = 47 then rdS g n m (i + 1) (shLine s) k
    else rdS g n m (i + 1) (shAdd s (g i)) k
abbrev wRs (r : zRw) (k : zKd) (s : zSh) : List zE := [zO 2 [zR 1, zI k.1, zI k.2.1, zI k.2.2.1, zI k.2.2.2.1, zI k.2.2.2.2], zO 3 [zR 2, zI r.1], zA 1 680 r.2, zO 4 [zR 4, zR 5, zI s.2.2.2.1, zR 6, zI s.2.2.2.2.1, zI s.2.2.2.2.2.1, zI s.2.2.2.2.2.2], zA 1 200 s.1, zA 0 202 s.2.1, zA 0 200 s.2.2.1]
set_option maxRecDepth 10000 in
set_option maxHeartbeats 8000000 in
theorem l_readS (r : zRw) (hr : okT r) (R : Int × zSh × zKd) : ∀ (m : Nat) (i : Int) (s : zSh) (k : zKd), 0 ≤ i ∧ i ≤ 400 → okD i s → (0 ≤ k.2.2.1 ∧ k.2.2.1 < 10) → r.1 - i < m → rdS (gT r) r.1 m i s k = R → Wa q_X6_readSheet 7 0 0 7 (zD (some (zI R.1)) (wRs r R.2.2 R.2.1)) 6 [(2, zI i), (0, zR 0), (1, zR 3)] [] (wRs r k s) 0 0 := by
  intro m
  induction m with
  | zero =>
    intro i s k h0 hs hq hm hR
    obtain ⟨⟨a1, a2⟩, ⟨b1, b2⟩, h3, h4, h5, h6⟩ := hs
    have r1 := hr.1
    have r2 := hr.2.1
    refine wa_iload_n (pc' := 7) dX6_readSheet_6 rfl rfl rfl ?_
    refine wa_aload_n (pc' := 8) dX6_readSheet_7 rfl rfl rfl ?_
    refine wa_getfield (pc' := 11) (j := 0) zc_X6 lk_X6_9 dX6_readSheet_8 rfl (by decide) rfl rfl ?_
    refine wa_rV (pc' := 14) (k_X7_size _) ok_X7_size lm_X6_30 dX6_readSheet_11 rfl [1, 2] rfl (by decide) rfl rfl rfl rfl rfl (by decide) (Nat.le_of_ble_eq_true rfl) rfl (by decide) (by decide) rfl ?_
    refine wa_icmp_ge (tgt := 143) (pc' := 17) dX6_readSheet_14 (by decide) rfl (by omega) (by omega) (fun c14 => ?_) (fun c14 => ?_)
    · refine wa_iconst (pc' := 144) dX6_readSheet_143 rfl ?_
      refine wa_iret dX6_readSheet_144 rfl (by decide) (by decide) ?_
      exact zD_i (by rw [← hR]; rfl) (by rw [← hR]; rfl)
    · exact absurd c14 (by omega)
  | succ m ih =>
    intro i s k h0 hs hq hm hR
    have hs9 := hs
    obtain ⟨⟨a1, a2⟩, ⟨b1, b2⟩, h3, h4, h5, h6⟩ := hs
    have r1 := hr.1
    have r2 := hr.2.1
    have gi := gT_b hr i
    have gp := gT_p hr i
    have cb := chR_b (gT r) (i + 1) k.2.2.1 hq
    have gs := gT_b hr (chR (gT r) (i + 1) k.2.2.1).1
    rw [rdS] at hR
    refine wa_iload_n (pc' := 7) dX6_readSheet_6 rfl rfl rfl ?_
    refine wa_aload_n (pc' := 8) dX6_readSheet_7 rfl rfl rfl ?_
    refine wa_getfield (pc' := 11) (j := 0) zc_X6 lk_X6_9 dX6_readSheet_8 rfl (by decide) rfl rfl ?_
    refine wa_rV (pc' := 14) (k_X7_size _) ok_X7_size lm_X6_30 dX6_readSheet_11 rfl [1, 2] rfl (by decide) rfl rfl rfl rfl rfl (by decide) (Nat.le_of_ble_eq_true rfl) rfl (by decide) (by decide) rfl ?_
    refine wa_icmp_ge (tgt := 143) (pc' := 17) dX6_readSheet_14 (by decide) rfl (by omega) (by omega) (fun c14 => ?_) (fun c14 => ?_)
    · refine wa_iconst (pc' := 144) dX6_readSheet_143 rfl ?_
      refine wa_iret dX6_readSheet_144 rfl (by decide) (by decide) ?_
      exact zD_i (by rw [← hR, if_pos (by omega)]) (by rw [← hR, if_pos (by omega)])
    · refine wa_aload_n (pc' := 18) dX6_readSheet_17 rfl rfl rfl ?_
      refine wa_getfield (pc' := 21) (j := 0) zc_X6 lk_X6_9 dX6_readSheet_18 rfl (by decide) rfl rfl ?_
      refine wa_iload_n (pc' := 22) dX6_readSheet_21 rfl rfl rfl ?_
      refine wa_rV (pc' := 25) (k_X7_at r (by have := hr.1; omega) (by have := hr.2.1; omega) (i) (by omega)) ok_X7_at lm_X6_36 dX6_readSheet_22 rfl [1, 2] rfl (by decide) rfl rfl rfl rfl rfl (by decide) (Nat.le_of_ble_eq_true rfl) rfl (by decide) (by decide) rfl ?_
      show Wa _ _ _ _ _ _ _ _ [zI (gT r i)] _ _ _
      refine wa_istore_n (pc' := 26) (ls' := [(3, _), (2, _), (0, _), (1, _)]) dX6_readSheet_25 rfl rfl (by decide) rfl ?_
      refine wa_iload_n (pc' := 27) dX6_readSheet_26 rfl rfl rfl ?_
      refine wa_bipush (pc' := 29) dX6_readSheet_27 rfl rfl ?_
      refine wa_icmp_eq (tgt := 47) (pc' := 32) dX6_readSheet_29 (by decide) rfl (by omega) (by omega) (fun c29 => ?_) (fun c29 => ?_)
      · refine wa_iload_n (pc' := 48) dX6_readSheet_47 rfl rfl rfl ?_
        refine wa_iret dX6_readSheet_48 rfl (by decide) (by decide) ?_
        (repeat' split at hR) <;> first | omega | (subst hR; exact zD_i rfl rfl)
      · refine wa_iload_n (pc' := 33) dX6_readSheet_32 rfl rfl rfl ?_
        refine wa_bipush (pc' := 35) dX6_readSheet_33 rfl rfl ?_
        refine wa_icmp_ne (tgt := 49) (pc' := 38) dX6_readSheet_35 (by decide) rfl (by omega) (by omega) (fun c35 => ?_) (fun c35 => ?_)
        · refine wa_iload_n (pc' := 50) dX6_readSheet_49 rfl rfl rfl ?_
          refine wa_bipush (pc' := 52) dX6_readSheet_50 rfl rfl ?_
          refine wa_icmp_ne (tgt := 118) (pc' := 55) dX6_readSheet_52 (by decide) rfl (by omega) (by omega) (fun c52 => ?_) (fun c52 => ?_)
          · refine wa_iload_n (pc' := 119) dX6_readSheet_118 rfl rfl rfl ?_
            refine wa_bipush (pc' := 121) dX6_readSheet_119 rfl rfl ?_
            refine wa_icmp_ne (tgt := 131) (pc' := 124) dX6_readSheet_121 (by decide) rfl (by omega) (by omega) (fun c121 => ?_) (fun c121 => ?_)
            · refine wa_aload_n (pc' := 132) dX6_readSheet_131 rfl rfl rfl ?_
              refine wa_iload_n (pc' := 133) dX6_readSheet_132 rfl rfl rfl ?_
              refine wa_i2c (pc' := 134) dX6_readSheet_133 rfl (by omega) (by omega) ?_
              refine wa_dV (pc' := 137) (w' := [_, _, _, zO _ [_, _, _, _, _, _, _], zA _ _ _, zA _ _ _, zA _ _ _]) (k_X8_addLetter s.1 s.2.1 s.2.2.1 s.2.2.2.1 s.2.2.2.2.1 s.2.2.2.2.2.1 s.2.2.2.2.2.2 (gT r i) (by omega) (by omega) (by omega)) ok_X8_addLetter lm_X6_67 dX6_readSheet_134 rfl [3, 4, 5, 6] rfl (by decide) rfl rfl rfl rfl rfl (by decide) (Nat.le_of_ble_eq_true rfl) rfl (by decide) (by decide) rfl rfl rfl ?_
              show Wa _ _ _ _ _ _ _ _ [] (wRs r k (shAdd s (gT r i))) _ _
              refine wa_iinc (pc' := 140) (ls' := [(2, _), (3, _), (0, _), (1, _)]) dX6_readSheet_137 rfl rfl (by decide) rfl ?_
              refine wa_goto (pc' := 6) dX6_readSheet_140 (by decide) ?_
              refine wa_sub [0, 2, 3] rfl ?_
              (repeat' split at hR) <;> first | omega | exact ih _ _ _ (by omega) (okD_add hs9 (by omega) _ (by omega)) hq (by omega) hR | exact ih _ _ _ (by omega) (okD_line hs9 (by omega)) hq (by omega) hR | exact ih _ _ _ (by omega) (okD_le (okD_app hs9 (by omega) (by omega) _ _ _ (by omega) (by omega) (by omega)) (by omega)) cb.2.2.1 (by omega) hR
            · refine wa_aload_n (pc' := 125) dX6_readSheet_124 rfl rfl rfl ?_
              refine wa_dV (pc' := 128) (w' := [_, _, _, zO _ [_, _, _, _, _, _, _], zA _ _ _, zA _ _ _, zA _ _ _]) (k_X8_beginLine s.1 s.2.1 s.2.2.1 s.2.2.2.1 s.2.2.2.2.1 s.2.2.2.2.2.1 s.2.2.2.2.2.2 (by omega)) ok_X8_beginLine lm_X6_64 dX6_readSheet_125 rfl [3, 4, 5, 6] rfl (by decide) rfl rfl rfl rfl rfl (by decide) (Nat.le_of_ble_eq_true rfl) rfl (by decide) (by decide) rfl rfl rfl ?_
              show Wa _ _ _ _ _ _ _ _ [] (wRs r k (shLine s)) _ _
              refine wa_goto (pc' := 137) dX6_readSheet_128 (by decide) ?_
              refine wa_iinc (pc' := 140) (ls' := [(2, _), (3, _), (0, _), (1, _)]) dX6_readSheet_137 rfl rfl (by decide) rfl ?_
              refine wa_goto (pc' := 6) dX6_readSheet_140 (by decide) ?_
              refine wa_sub [0, 2, 3] rfl ?_
              (repeat' split at hR) <;> first | omega | exact ih _ _ _ (by omega) (okD_add hs9 (by omega) _ (by omega)) hq (by omega) hR | exact ih _ _ _ (by omega) (okD_line hs9 (by omega)) hq (by omega) hR | exact ih _ _ _ (by omega) (okD_le (okD_app hs9 (by omega) (by omega) _ _ _ (by omega) (by omega) (by omega)) (by omega)) cb.2.2.1 (by omega) hR
          · refine wa_aload_n (pc' := 56) dX6_readSheet_55 rfl rfl rfl ?_
            refine wa_iload_n (pc' := 57) dX6_readSheet_56 rfl rfl rfl ?_
            refine wa_iconst (pc' := 58) dX6_readSheet_57 rfl ?_
            refine wa_iadd (pc' := 59) dX6_readSheet_58 rfl ?_
            refine wa_dV (pc' := 62) (w' := [zO _ [_, _, _, _, _, _], zO _ [_, _], zA _ _ _, _, _, _, _]) (k_X6_readChord r k.1 k.2.1 k.2.2.1 k.2.2.2.1 k.2.2.2.2 (i + 1) hr (by omega) hq) ok_X6_readChord lm_X6_43 dX6_readSheet_59 rfl [0, 1, 2] rfl (by decide) rfl rfl rfl rfl rfl (by decide) (Nat.le_of_ble_eq_true rfl) rfl (by decide) (by decide) rfl rfl rfl ?_
            show Wa _ _ _ _ _ _ _ _ [] (wRs r (chR (gT r) (i + 1) k.2.2.1) s) _ _
            refine wa_aload_n (pc' := 63) dX6_readSheet_62 rfl rfl rfl ?_
            refine wa_getfield (pc' := 66) (j := 5) zc_X6 lk_X6_47 dX6_readSheet_63 rfl (by decide) rfl rfl ?_
            refine wa_if_eq (tgt := 85) (pc' := 69) dX6_readSheet_66 (by decide) rfl (by omega) (fun c66 => ?_) (fun c66 => ?_)
            · refine wa_aload_n (pc' := 86) dX6_readSheet_85 rfl rfl rfl ?_
              refine wa_getfield (pc' := 89) (j := 1) zc_X6 lk_X6_51 dX6_readSheet_86 rfl (by decide) rfl rfl ?_
              refine wa_iret dX6_readSheet_89 rfl (by decide) (by decide) ?_
              (repeat' split at hR) <;> first | omega | (subst hR; exact zD_i rfl rfl)
            · refine wa_aload_n (pc' := 70) dX6_readSheet_69 rfl rfl rfl ?_
              refine wa_getfield (pc' := 73) (j := 0) zc_X6 lk_X6_9 dX6_readSheet_70 rfl (by decide) rfl rfl ?_
              refine wa_aload_n (pc' := 74) dX6_readSheet_73 rfl rfl rfl ?_
              refine wa_getfield (pc' := 77) (j := 1) zc_X6 lk_X6_51 dX6_readSheet_74 rfl (by decide) rfl rfl ?_
              refine wa_rV (pc' := 80) (k_X7_at r (by have := hr.1; omega) (by have := hr.2.1; omega) ((chR (gT r) (i + 1) k.2.2.1).1) (by omega)) ok_X7_at lm_X6_36 dX6_readSheet_77 rfl [1, 2] rfl (by decide) rfl rfl rfl rfl rfl (by decide) (Nat.le_of_ble_eq_true rfl) rfl (by decide) (by decide) rfl ?_
              show Wa _ _ _ _ _ _ _ _ [zI (gT r (chR (gT r) (i + 1) k.2.2.1).1)] _ _ _
              refine wa_bipush (pc' := 82) dX6_readSheet_80 rfl rfl ?_
              refine wa_icmp_eq (tgt := 90) (pc' := 85) dX6_readSheet_82 (by decide) rfl (by omega) (by omega) (fun c82 => ?_) (fun c82 => ?_)
              · refine wa_aload_n (pc' := 91) dX6_readSheet_90 rfl rfl rfl ?_
                refine wa_aload_n (pc' := 92) dX6_readSheet_91 rfl rfl rfl ?_
                refine wa_getfield (pc' := 95) (j := 2) zc_X6 lk_X6_15 dX6_readSheet_92 rfl (by decide) rfl rfl ?_
                refine wa_aload_n (pc' := 96) dX6_readSheet_95 rfl rfl rfl ?_
                refine wa_getfield (pc' := 99) (j := 3) zc_X6 lk_X6_19 dX6_readSheet_96 rfl (by decide) rfl rfl ?_
                refine wa_aload_n (pc' := 100) dX6_readSheet_99 rfl rfl rfl ?_
                refine wa_getfield (pc' := 103) (j := 4) zc_X6 lk_X6_22 dX6_readSheet_100 rfl (by decide) rfl rfl ?_
                refine wa_dV (pc' := 106) (w' := [_, _, _, zO _ [_, _, _, _, _, _, _], zA _ _ _, zA _ _ _, zA _ _ _]) (k_X8_append s.1 s.2.1 s.2.2.1 s.2.2.2.1 s.2.2.2.2.1 s.2.2.2.2.2.1 s.2.2.2.2.2.2 (chR (gT r) (i + 1) k.2.2.1).2.1 (chR (gT r) (i + 1) k.2.2.1).2.2.1 (chR (gT r) (i + 1) k.2.2.1).2.2.2.1 (by omega) (by omega) h3 h5) ok_X8_append lm_X6_54 dX6_readSheet_103 rfl [3, 4, 5, 6] rfl (by decide) rfl rfl rfl rfl rfl (by decide) (Nat.le_of_ble_eq_true rfl) rfl (by decide) (by decide) rfl rfl rfl ?_
                show Wa _ _ _ _ _ _ _ _ [] (wRs r (chR (gT r) (i + 1) k.2.2.1) (shApp s (chR (gT r) (i + 1) k.2.2.1).2.1 (chR (gT r) (i + 1) k.2.2.1).2.2.1 (chR (gT r) (i + 1) k.2.2.1).2.2.2.1)) _ _
                refine wa_iload_n (pc' := 107) dX6_readSheet_106 rfl rfl rfl ?_
                refine wa_aload_n (pc' := 108) dX6_readSheet_107 rfl rfl rfl ?_
                refine wa_getfield (pc' := 111) (j := 1) zc_X6 lk_X6_51 dX6_readSheet_108 rfl (by decide) rfl rfl ?_
                refine wa_max (pc' := 114) dX6_readSheet_111 rfl lmm_X6_58 zl_max1 zl_math zl_max2 (by omega) (by omega) (by decide) (Nat.le_of_ble_eq_true rfl) (by decide) (by decide) ?_
                rw [Int.max_eq_right (by omega)]
                refine wa_istore_n (pc' := 115) (ls' := [(2, _), (3, _), (0, _), (1, _)]) dX6_readSheet_114 rfl rfl (by decide) rfl ?_
                refine wa_goto (pc' := 137) dX6_readSheet_115 (by decide) ?_
                refine wa_iinc (pc' := 140) (ls' := [(2, _), (3, _), (0, _), (1, _)]) dX6_readSheet_137 rfl rfl (by decide) rfl ?_
                refine wa_goto (pc' := 6) dX6_readSheet_140 (by decide) ?_
                refine wa_sub [0, 2, 3] rfl ?_
                (repeat' split at hR) <;> first | omega | exact ih _ _ _ (by omega) (okD_add hs9 (by omega) _ (by omega)) hq (by omega) hR | exact ih _ _ _ (by omega) (okD_line hs9 (by omega)) hq (by omega) hR | exact ih _ _ _ (by omega) (okD_le (okD_app hs9 (by omega) (by omega) _ _ _ (by omega) (by omega) (by omega)) (by omega)) cb.2.2.1 (by omega) hR
              · refine wa_aload_n (pc' := 86) dX6_readSheet_85 rfl rfl rfl ?_
                refine wa_getfield (pc' := 89) (j := 1) zc_X6 lk_X6_51 dX6_readSheet_86 rfl (by decide) rfl rfl ?_
                refine wa_iret dX6_readSheet_89 rfl (by decide) (by decide) ?_
                (repeat' split at hR) <;> first | omega | (subst hR; exact zD_i rfl rfl)
        · refine wa_aload_n (pc' := 39) dX6_readSheet_38 rfl rfl rfl ?_
          refine wa_rV (pc' := 42) (k_X8_chordCount s.1 s.2.1 s.2.2.1 s.2.2.2.1 s.2.2.2.2.1 s.2.2.2.2.2.1 s.2.2.2.2.2.2) ok_X8_chordCount lm_X6_40 dX6_readSheet_39 rfl [3, 4, 5, 6] rfl (by decide) rfl rfl rfl rfl rfl (by decide) (Nat.le_of_ble_eq_true rfl) rfl (by decide) (by decide) rfl ?_
          refine wa_bipush (pc' := 44) dX6_readSheet_42 rfl rfl ?_
          refine wa_icmp_lt (tgt := 49) (pc' := 47) dX6_readSheet_44 (by decide) rfl (by omega) (by omega) (fun c44 => ?_) (fun c44 => ?_)
          · refine wa_iload_n (pc' := 50) dX6_readSheet_49 rfl rfl rfl ?_
            refine wa_bipush (pc' := 52) dX6_readSheet_50 rfl rfl ?_
            refine wa_icmp_ne (tgt := 118) (pc' := 55) dX6_readSheet_52 (by decide) rfl (by omega) (by omega) (fun c52 => ?_) (fun c52 => ?_)
            · refine wa_iload_n (pc' := 119) dX6_readSheet_118 rfl rfl rfl ?_
              refine wa_bipush (pc' := 121) dX6_readSheet_119 rfl rfl ?_
              refine wa_icmp_ne (tgt := 131) (pc' := 124) dX6_readSheet_121 (by decide) rfl (by omega) (by omega) (fun c121 => ?_) (fun c121 => ?_)
              · refine wa_aload_n (pc' := 132) dX6_readSheet_131 rfl rfl rfl ?_
                refine wa_iload_n (pc' := 133) dX6_readSheet_132 rfl rfl rfl ?_
                refine wa_i2c (pc' := 134) dX6_readSheet_133 rfl (by omega) (by omega) ?_
                refine wa_dV (pc' := 137) (w' := [_, _, _, zO _ [_, _, _, _, _, _, _], zA _ _ _, zA _ _ _, zA _ _ _]) (k_X8_addLetter s.1 s.2.1 s.2.2.1 s.2.2.2.1 s.2.2.2.2.1 s.2.2.2.2.2.1 s.2.2.2.2.2.2 (gT r i) (by omega) (by omega) (by omega)) ok_X8_addLetter lm_X6_67 dX6_readSheet_134 rfl [3, 4, 5, 6] rfl (by decide) rfl rfl rfl rfl rfl (by decide) (Nat.le_of_ble_eq_true rfl) rfl (by decide) (by decide) rfl rfl rfl ?_
                show Wa _ _ _ _ _ _ _ _ [] (wRs r k (shAdd s (gT r i))) _ _
                refine wa_iinc (pc' := 140) (ls' := [(2, _), (3, _), (0, _), (1, _)]) dX6_readSheet_137 rfl rfl (by decide) rfl ?_
                refine wa_goto (pc' := 6) dX6_readSheet_140 (by decide) ?_
                refine wa_sub [0, 2, 3] rfl ?_
                (repeat' split at hR) <;> first | omega | exact ih _ _ _ (by omega) (okD_add hs9 (by omega) _ (by omega)) hq (by omega) hR | exact ih _ _ _ (by omega) (okD_line hs9 (by omega)) hq (by omega) hR | exact ih _ _ _ (by omega) (okD_le (okD_app hs9 (by omega) (by omega) _ _ _ (by omega) (by omega) (by omega)) (by omega)) cb.2.2.1 (by omega) hR
              · refine wa_aload_n (pc' := 125) dX6_readSheet_124 rfl rfl rfl ?_
                refine wa_dV (pc' := 128) (w' := [_, _, _, zO _ [_, _, _, _, _, _, _], zA _ _ _, zA _ _ _, zA _ _ _]) (k_X8_beginLine s.1 s.2.1 s.2.2.1 s.2.2.2.1 s.2.2.2.2.1 s.2.2.2.2.2.1 s.2.2.2.2.2.2 (by omega)) ok_X8_beginLine lm_X6_64 dX6_readSheet_125 rfl [3, 4, 5, 6] rfl (by decide) rfl rfl rfl rfl rfl (by decide) (Nat.le_of_ble_eq_true rfl) rfl (by decide) (by decide) rfl rfl rfl ?_
                show Wa _ _ _ _ _ _ _ _ [] (wRs r k (shLine s)) _ _
                refine wa_goto (pc' := 137) dX6_readSheet_128 (by decide) ?_
                refine wa_iinc (pc' := 140) (ls' := [(2, _), (3, _), (0, _), (1, _)]) dX6_readSheet_137 rfl rfl (by decide) rfl ?_
                refine wa_goto (pc' := 6) dX6_readSheet_140 (by decide) ?_
                refine wa_sub [0, 2, 3] rfl ?_
                (repeat' split at hR) <;> first | omega | exact ih _ _ _ (by omega) (okD_add hs9 (by omega) _ (by omega)) hq (by omega) hR | exact ih _ _ _ (by omega) (okD_line hs9 (by omega)) hq (by omega) hR | exact ih _ _ _ (by omega) (okD_le (okD_app hs9 (by omega) (by omega) _ _ _ (by omega) (by omega) (by omega)) (by omega)) cb.2.2.1 (by omega) hR
            · refine wa_aload_n (pc' := 56) dX6_readSheet_55 rfl rfl rfl ?_
              refine wa_iload_n (pc' := 57) dX6_readSheet_56 rfl rfl rfl ?_
              refine wa_iconst (pc' := 58) dX6_readSheet_57 rfl ?_
              refine wa_iadd (pc' := 59) dX6_readSheet_58 rfl ?_
              refine wa_dV (pc' := 62) (w' := [zO _ [_, _, _, _, _, _], zO _ [_, _], zA _ _ _, _, _, _, _]) (k_X6_readChord r k.1 k.2.1 k.2.2.1 k.2.2.2.1 k.2.2.2.2 (i + 1) hr (by omega) hq) ok_X6_readChord lm_X6_43 dX6_readSheet_59 rfl [0, 1, 2] rfl (by decide) rfl rfl rfl rfl rfl (by decide) (Nat.le_of_ble_eq_true rfl) rfl (by decide) (by decide) rfl rfl rfl ?_
              show Wa _ _ _ _ _ _ _ _ [] (wRs r (chR (gT r) (i + 1) k.2.2.1) s) _ _
              refine wa_aload_n (pc' := 63) dX6_readSheet_62 rfl rfl rfl ?_
              refine wa_getfield (pc' := 66) (j := 5) zc_X6 lk_X6_47 dX6_readSheet_63 rfl (by decide) rfl rfl ?_
              refine wa_if_eq (tgt := 85) (pc' := 69) dX6_readSheet_66 (by decide) rfl (by omega) (fun c66 => ?_) (fun c66 => ?_)
              · refine wa_aload_n (pc' := 86) dX6_readSheet_85 rfl rfl rfl ?_
                refine wa_getfield (pc' := 89) (j := 1) zc_X6 lk_X6_51 dX6_readSheet_86 rfl (by decide) rfl rfl ?_
                refine wa_iret dX6_readSheet_89 rfl (by decide) (by decide) ?_
                (repeat' split at hR) <;> first | omega | (subst hR; exact zD_i rfl rfl)
              · refine wa_aload_n (pc' := 70) dX6_readSheet_69 rfl rfl rfl ?_
                refine wa_getfield (pc' := 73) (j := 0) zc_X6 lk_X6_9 dX6_readSheet_70 rfl (by decide) rfl rfl ?_
                refine wa_aload_n (pc' := 74) dX6_readSheet_73 rfl rfl rfl ?_
                refine wa_getfield (pc' := 77) (j := 1) zc_X6 lk_X6_51 dX6_readSheet_74 rfl (by decide) rfl rfl ?_
                refine wa_rV (pc' := 80) (k_X7_at r (by have := hr.1; omega) (by have := hr.2.1; omega) ((chR (gT r) (i + 1) k.2.2.1).1) (by omega)) ok_X7_at lm_X6_36 dX6_readSheet_77 rfl [1, 2] rfl (by decide) rfl rfl rfl rfl rfl (by decide) (Nat.le_of_ble_eq_true rfl) rfl (by decide) (by decide) rfl ?_
                show Wa _ _ _ _ _ _ _ _ [zI (gT r (chR (gT r) (i + 1) k.2.2.1).1)] _ _ _
                refine wa_bipush (pc' := 82) dX6_readSheet_80 rfl rfl ?_
                refine wa_icmp_eq (tgt := 90) (pc' := 85) dX6_readSheet_82 (by decide) rfl (by omega) (by omega) (fun c82 => ?_) (fun c82 => ?_)
                · refine wa_aload_n (pc' := 91) dX6_readSheet_90 rfl rfl rfl ?_
                  refine wa_aload_n (pc' := 92) dX6_readSheet_91 rfl rfl rfl ?_
                  refine wa_getfield (pc' := 95) (j := 2) zc_X6 lk_X6_15 dX6_readSheet_92 rfl (by decide) rfl rfl ?_
                  refine wa_aload_n (pc' := 96) dX6_readSheet_95 rfl rfl rfl ?_
                  refine wa_getfield (pc' := 99) (j := 3) zc_X6 lk_X6_19 dX6_readSheet_96 rfl (by decide) rfl rfl ?_
                  refine wa_aload_n (pc' := 100) dX6_readSheet_99 rfl rfl rfl ?_
                  refine wa_getfield (pc' := 103) (j := 4) zc_X6 lk_X6_22 dX6_readSheet_100 rfl (by decide) rfl rfl ?_
                  refine wa_dV (pc' := 106) (w' := [_, _, _, zO _ [_, _, _, _, _, _, _], zA _ _ _, zA _ _ _, zA _ _ _]) (k_X8_append s.1 s.2.1 s.2.2.1 s.2.2.2.1 s.2.2.2.2.1 s.2.2.2.2.2.1 s.2.2.2.2.2.2 (chR (gT r) (i + 1) k.2.2.1).2.1 (chR (gT r) (i + 1) k.2.2.1).2.2.1 (chR (gT r) (i + 1) k.2.2.1).2.2.2.1 (by omega) (by omega) h3 h5) ok_X8_append lm_X6_54 dX6_readSheet_103 rfl [3, 4, 5, 6] rfl (by decide) rfl rfl rfl rfl rfl (by decide) (Nat.le_of_ble_eq_true rfl) rfl (by decide) (by decide) rfl rfl rfl ?_
                  show Wa _ _ _ _ _ _ _ _ [] (wRs r (chR (gT r) (i + 1) k.2.2.1) (shApp s (chR (gT r) (i + 1) k.2.2.1).2.1 (chR (gT r) (i + 1) k.2.2.1).2.2.1 (chR (gT r) (i + 1) k.2.2.1).2.2.2.1)) _ _
                  refine wa_iload_n (pc' := 107) dX6_readSheet_106 rfl rfl rfl ?_
                  refine wa_aload_n (pc' := 108) dX6_readSheet_107 rfl rfl rfl ?_
                  refine wa_getfield (pc' := 111) (j := 1) zc_X6 lk_X6_51 dX6_readSheet_108 rfl (by decide) rfl rfl ?_
                  refine wa_max (pc' := 114) dX6_readSheet_111 rfl lmm_X6_58 zl_max1 zl_math zl_max2 (by omega) (by omega) (by decide) (Nat.le_of_ble_eq_true rfl) (by decide) (by decide) ?_
                  rw [Int.max_eq_right (by omega)]
                  refine wa_istore_n (pc' := 115) (ls' := [(2, _), (3, _), (0, _), (1, _)]) dX6_readSheet_114 rfl rfl (by decide) rfl ?_
                  refine wa_goto (pc' := 137) dX6_readSheet_115 (by decide) ?_
                  refine wa_iinc (pc' := 140) (ls' := [(2, _), (3, _), (0, _), (1, _)]) dX6_readSheet_137 rfl rfl (by decide) rfl ?_
                  refine wa_goto (pc' := 6) dX6_readSheet_140 (by decide) ?_
                  refine wa_sub [0, 2, 3] rfl ?_
                  (repeat' split at hR) <;> first | omega | exact ih _ _ _ (by omega) (okD_add hs9 (by omega) _ (by omega)) hq (by omega) hR | exact ih _ _ _ (by omega) (okD_line hs9 (by omega)) hq (by omega) hR | exact ih _ _ _ (by omega) (okD_le (okD_app hs9 (by omega) (by omega) _ _ _ (by omega) (by omega) (by omega)) (by omega)) cb.2.2.1 (by omega) hR
                · refine wa_aload_n (pc' := 86) dX6_readSheet_85 rfl rfl rfl ?_
                  refine wa_getfield (pc' := 89) (j := 1) zc_X6 lk_X6_51 dX6_readSheet_86 rfl (by decide) rfl rfl ?_
                  refine wa_iret dX6_readSheet_89 rfl (by decide) (by decide) ?_
                  (repeat' split at hR) <;> first | omega | (subst hR; exact zD_i rfl rfl)
          · refine wa_iload_n (pc' := 48) dX6_readSheet_47 rfl rfl rfl ?_
            refine wa_iret dX6_readSheet_48 rfl (by decide) (by decide) ?_
            (repeat' split at hR) <;> first | omega | (subst hR; exact zD_i rfl rfl)

set_option maxRecDepth 10000 in
set_option maxHeartbeats 1000000 in
theorem k_X6_readSheet (r : zRw) (k : zKd) (s : zSh) (hr : okT r) (hs : okD 200 s) (hq : 0 ≤ k.2.2.1 ∧ k.2.2.1 < 10) : zMet q_X6_readSheet 7 0 0 [zR 0, zR 3] (wRs r k s) (zD (some (zI (rdS (gT r) r.1 (r.1.toNat + 1) 0 (shClr s) k).1)) (wRs r (rdS (gT r) r.1 (r.1.toNat + 1) 0 (shClr s) k).2.2 (rdS (gT r) r.1 (r.1.toNat + 1) 0 (shClr s) k).2.1)) := by
  refine z_introF (ls := [(0, _), (1, _)]) (by decide +kernel) rfl (fun _ _ => rfl) (fun _ _ => Nat.le_of_ble_eq_true rfl) ?_
  refine wa_aload_n (pc' := 1) dX6_readSheet_0 rfl rfl rfl ?_
  refine wa_dV (pc' := 4) (w' := [_, _, _, zO _ [_, _, _, _, _, _, _], zA _ _ _, zA _ _ _, zA _ _ _]) (k_X8_clear s.1 s.2.1 s.2.2.1 s.2.2.2.1 s.2.2.2.2.1 s.2.2.2.2.2.1 s.2.2.2.2.2.2) ok_X8_clear lm_X6_25 dX6_readSheet_1 rfl [3, 4, 5, 6] rfl (by decide) rfl rfl rfl rfl rfl (by decide) (Nat.le_of_ble_eq_true rfl) rfl (by decide) (by decide) rfl rfl rfl ?_
  show Wa _ _ _ _ _ _ _ _ [] (wRs r k (shClr s)) _ _
  refine wa_iconst (pc' := 5) dX6_readSheet_4 rfl ?_
  refine wa_istore_n (pc' := 6) (ls' := [(2, _), (0, _), (1, _)]) dX6_readSheet_5 rfl rfl (by decide) rfl ?_
  exact l_readS r hr _ (r.1.toNat + 1) 0 (shClr s) k (by omega) (okD_clr hs) hq (by have := hr.1; omega) rfl

