/-! the reference: notes, qualities, names -/
/-- the typed text -/
def Tr (t : zRw) (tx : Int → Int) (ty : Int) : Prop := ty = t.1 ∧ ∀ j : Int, 0 ≤ j → j < t.1 → tx j = t.2 j
theorem mLet_b (k : Int) : 0 ≤ mLet k ∧ mLet k ≤ 127 := by
  simp only [mLet, zup]
  (repeat' split) <;> omega
theorem mQua_b (k : Int) : 0 ≤ mQua k ∧ mQua k ≤ 127 := by
  simp only [mQua, zup]
  (repeat' split) <;> omega
def plR (c : Int) : Nat → Int → Int
  | 0, _ => 100
  | m + 1, k => if mLet k = c then k - 1 else plR c m (k + 1)
theorem plR_e (c : Int) : plR c 7 0 = nat9 c := by
  have m0 : mLet 0 = 70 := rfl
  have m1 : mLet 1 = 67 := rfl
  have m2 : mLet 2 = 71 := rfl
  have m3 : mLet 3 = 68 := rfl
  have m4 : mLet 4 = 65 := rfl
  have m5 : mLet 5 = 69 := rfl
  have m6 : mLet 6 = 66 := rfl
  simp only [plR, Int.zero_add, Int.reduceAdd, m0, m1, m2, m3, m4, m5, m6]
  unfold nat9 zidx
  (repeat' split) <;> omega
/-- where a quality begins in the row of all -/
def lkR (q : Int) : Nat → Int → Int → Int → Int
  | 0, _, _, b => b
  | m + 1, k, n, b => if n < q then lkR q m (k + 1) (n + (if mQua k = 59 then 1 else 0)) (k + 1) else b
def qBeg : List Int := [0, 1, 3, 5, 8, 13, 17, 21, 26, 28]
theorem lkR_e : ∀ q : Nat, q < 10 → lkR q 30 0 0 0 = qBeg.getD q 0 := by decide +kernel
theorem qua_in : ∀ q : Nat, q < 10 → ∀ i : Nat, i < (zBytes.getD q []).length → mQua (qBeg.getD q 0 + i) = (zBytes.getD q []).getD i 0 ∧ ¬ (zBytes.getD q []).getD i 0 = 59 := by decide +kernel
theorem qua_end : ∀ q : Nat, q < 10 → mQua (qBeg.getD q 0 + (zBytes.getD q []).length) = 59 := by decide +kernel
theorem qBeg_b : ∀ q : Nat, q < 10 → 0 ≤ qBeg.getD q 0 ∧ qBeg.getD q 0 + (zBytes.getD q []).length < 30 ∧ (zBytes.getD q []).length ≤ 4 := by decide +kernel
/-- qualities, one after the other: how many letters fit at most, the quality, whether it is whole, the last one's wholeness -/
def mqR (g : Int → Int) (p : Int) : Nat → Int → Int → Int → Int → Int → Int × Int × Int × Int
  | 0, _, mo, be, ha, wh => (mo, be, ha, wh)
  | m + 1, q, mo, be, ha, wh =>
    if mo < shR g p (zBytes.getD q.toNat []) 0 ∨ (shR g p (zBytes.getD q.toNat []) 0 = mo ∧ (if shR g p (zBytes.getD q.toNat []) 0 = (zBytes.getD q.toNat []).length then (1 : Int) else 0) = 1) then
      mqR g p m (q + 1) (shR g p (zBytes.getD q.toNat []) 0) q (if shR g p (zBytes.getD q.toNat []) 0 = (zBytes.getD q.toNat []).length then 1 else 0) (if shR g p (zBytes.getD q.toNat []) 0 = (zBytes.getD q.toNat []).length then 1 else 0)
    else mqR g p m (q + 1) mo be ha (if shR g p (zBytes.getD q.toNat []) 0 = (zBytes.getD q.toNat []).length then 1 else 0)
theorem ite_P {α : Type} {P : α → Prop} {c : Prop} [Decidable c] {A B : α} (h1 : P A) (h2 : P B) : P (if c then A else B) := by split <;> assumption
theorem mqR_b (g : Int → Int) (p : Int) : ∀ (m : Nat) (q mo be ha wh : Int), 0 ≤ q → q + m = 10 → (0 ≤ mo ∧ mo ≤ 8) → (ha = 0 ∨ ha = 1) → (0 ≤ (mqR g p m q mo be ha wh).1 ∧ (mqR g p m q mo be ha wh).1 ≤ 8) ∧ ((mqR g p m q mo be ha wh).2.2.1 = 0 ∨ (mqR g p m q mo be ha wh).2.2.1 = 1)
  | 0, q, mo, be, ha, wh, h0, h1, h2, h3 => ⟨h2, h3⟩
  | m + 1, q, mo, be, ha, wh, h0, h1, h2, h3 => by
    have h4 := shR_b g p (zBytes.getD q.toNat []) 0
    have h5 := zblen (q := q.toNat) (by omega)
    rw [mqR]
    exact ite_P (P := fun x : Int × Int × Int × Int => (0 ≤ x.1 ∧ x.1 ≤ 8) ∧ (x.2.2.1 = 0 ∨ x.2.2.1 = 1)) (mqR_b g p m _ _ _ _ _ (by omega) (by omega) (by omega) (by split <;> omega)) (mqR_b g p m _ _ _ _ _ (by omega) (by omega) h2 h3)
set_option maxRecDepth 10000 in
set_option maxHeartbeats 1000000 in
theorem l_placeOf (v pa : Int → Int) (sn : Int) (tx : Int → Int) (ty si fl wi th ap nt rr rq rb wh : Int) (md na : Int → Int) (nd : Int) (up lo : Int → Int) (us lw : Int) (c R : Int) (hc : zin c) : ∀ (m : Nat) (k : Int), 0 ≤ k → k + m = 7 → plR c m k = R → Wa q_X10_placeOf 0 0 0 10 (zD (some (zI R)) (wM v pa sn tx ty si fl wi th ap nt rr rq rb wh md na nd up lo us lw)) 2 [(2, zI k), (0, zR 0), (1, zI c)] [] (wM v pa sn tx ty si fl wi th ap nt rr rq rb wh md na nd up lo us lw) 0 0 := by
  intro m
  induction m with
  | zero =>
    intro k h0 hm hR
    refine wa_iload_n (pc' := 3) dX10_placeOf_2 rfl rfl rfl ?_
    refine wa_aload_n (pc' := 4) dX10_placeOf_3 rfl rfl rfl ?_
    refine wa_getfield (pc' := 7) (j := 9) zc_X10 lk_X10_27 dX10_placeOf_4 rfl (by decide) rfl rfl ?_
    refine wa_alen (pc' := 8) dX10_placeOf_7 rfl rfl (by decide) ?_
    refine wa_icmp_ge (tgt := 31) (pc' := 11) dX10_placeOf_8 (by decide) rfl (by omega) (by omega) (fun c8 => ?_) (fun c8 => ?_)
    · refine wa_bipush (pc' := 33) dX10_placeOf_31 rfl rfl ?_
      refine wa_iret dX10_placeOf_33 rfl (by decide) (by decide) ?_
      exact zD_i (by rw [← hR]; rfl) rfl
    · exact absurd c8 (by omega)
  | succ m ih =>
    intro k h0 hm hR
    have hb := mLet_b k
    refine wa_iload_n (pc' := 3) dX10_placeOf_2 rfl rfl rfl ?_
    refine wa_aload_n (pc' := 4) dX10_placeOf_3 rfl rfl rfl ?_
    refine wa_getfield (pc' := 7) (j := 9) zc_X10 lk_X10_27 dX10_placeOf_4 rfl (by decide) rfl rfl ?_
    refine wa_alen (pc' := 8) dX10_placeOf_7 rfl rfl (by decide) ?_
    refine wa_icmp_ge (tgt := 31) (pc' := 11) dX10_placeOf_8 (by decide) rfl (by omega) (by omega) (fun c8 => ?_) (fun c8 => ?_)
    · exact absurd c8 (by omega)
    · refine wa_aload_n (pc' := 12) dX10_placeOf_11 rfl rfl rfl ?_
      refine wa_getfield (pc' := 15) (j := 9) zc_X10 lk_X10_27 dX10_placeOf_12 rfl (by decide) rfl rfl ?_
      refine wa_iload_n (pc' := 16) dX10_placeOf_15 rfl rfl rfl ?_
      refine wa_caload (pc' := 17) dX10_placeOf_16 rfl rfl (by omega) (by omega) (by decide) ?_
      refine wa_iload_n (pc' := 18) dX10_placeOf_17 rfl rfl rfl ?_
      refine wa_icmp_ne (tgt := 25) (pc' := 21) dX10_placeOf_18 (by decide) rfl (by omega) (by omega) (fun c18 => ?_) (fun c18 => ?_)
      · refine wa_iinc (pc' := 28) (ls' := [(2, _), (0, _), (1, _)]) dX10_placeOf_25 rfl rfl (by decide) rfl ?_
        refine wa_goto (pc' := 2) dX10_placeOf_28 (by decide) ?_
        exact ih (k + 1) (by omega) (by omega) (by rw [← hR, plR, if_neg (by omega)])
      · refine wa_iload_n (pc' := 22) dX10_placeOf_21 rfl rfl rfl ?_
        refine wa_iconst (pc' := 23) dX10_placeOf_22 rfl ?_
        refine wa_isub (pc' := 24) dX10_placeOf_23 rfl ?_
        refine wa_iret dX10_placeOf_24 rfl (by decide) (by decide) ?_
        exact zD_i (by rw [← hR, plR, if_pos (by omega)]) rfl

set_option maxRecDepth 10000 in
set_option maxHeartbeats 1000000 in
theorem k_X10_placeOf (v pa : Int → Int) (sn : Int) (tx : Int → Int) (ty si fl wi th ap nt rr rq rb wh : Int) (md na : Int → Int) (nd : Int) (up lo : Int → Int) (us lw : Int) (c : Int) (hc : zin c) : zMet q_X10_placeOf 0 0 0 [zR 0, zI c] (wM v pa sn tx ty si fl wi th ap nt rr rq rb wh md na nd up lo us lw) (zD (some (zI (nat9 c))) (wM v pa sn tx ty si fl wi th ap nt rr rq rb wh md na nd up lo us lw)) := by
  refine z_introF (ls := [(0, _), (1, _)]) (by decide +kernel) rfl (fun _ _ => rfl) (fun _ _ => Nat.le_of_ble_eq_true rfl) ?_
  refine wa_iconst (pc' := 1) dX10_placeOf_0 rfl ?_
  refine wa_istore_n (pc' := 2) (ls' := [(2, _), (0, _), (1, _)]) dX10_placeOf_1 rfl rfl (by decide) rfl ?_
  exact l_placeOf v pa sn tx ty si fl wi th ap nt rr rq rb wh md na nd up lo us lw c _ hc 7 0 (by omega) (by omega) (plR_e c)

set_option maxRecDepth 10000 in
set_option maxHeartbeats 1000000 in
theorem k_X10_sign (t : zRw) (v pa : Int → Int) (sn : Int) (tx : Int → Int) (ty si fl wi th ap nt rr rq rb wh : Int) (md na : Int → Int) (nd : Int) (up lo : Int → Int) (us lw : Int) (i : Int) (ht : okT t) (hx : Tr t tx ty) (hi : 0 ≤ i ∧ i ≤ 1000) : zMet q_X10_sign 0 0 0 [zR 0, zI i] (wM v pa sn tx ty si fl wi th ap nt rr rq rb wh md na nd up lo us lw) (zD (some (zI (gT t i))) (wM v pa sn tx ty si fl wi th ap nt rr rq rb wh md na nd up lo us lw)) := by
  refine z_introF (ls := [(0, _), (1, _)]) (by decide +kernel) rfl (fun _ _ => rfl) (fun _ _ => Nat.le_of_ble_eq_true rfl) ?_
  obtain ⟨x0, x1⟩ := id hx
  obtain ⟨t1, t2, t3⟩ := id ht
  refine wa_iload_n (pc' := 1) dX10_sign_0 rfl rfl rfl ?_
  refine wa_aload_n (pc' := 2) dX10_sign_1 rfl rfl rfl ?_
  refine wa_getfield (pc' := 5) (j := 4) zc_X10 lk_X10_56 dX10_sign_2 rfl (by decide) rfl rfl ?_
  refine wa_icmp_ge (tgt := 17) (pc' := 8) dX10_sign_5 (by decide) rfl (by omega) (by omega) (fun c5 => ?_) (fun c5 => ?_)
  · refine wa_iconst (pc' := 18) dX10_sign_17 rfl ?_
    refine wa_iret dX10_sign_18 rfl (by decide) (by decide) ?_
    exact zD_i (congrArg (fun x => some (zI x)) (by rw [gT]; first | (rw [if_pos ⟨by omega, by omega⟩]; exact x1 i (by omega) (by omega)) | rw [if_neg (fun h => by omega)])) rfl
  · refine wa_aload_n (pc' := 9) dX10_sign_8 rfl rfl rfl ?_
    refine wa_getfield (pc' := 12) (j := 3) zc_X10 lk_X10_16 dX10_sign_9 rfl (by decide) rfl rfl ?_
    refine wa_iload_n (pc' := 13) dX10_sign_12 rfl rfl rfl ?_
    refine wa_iaload (pc' := 14) dX10_sign_13 rfl rfl (by omega) (by omega) (by decide) ?_
    refine wa_goto (pc' := 18) dX10_sign_14 (by decide) ?_
    refine wa_iret dX10_sign_18 rfl (by decide) (by decide) ?_
    exact zD_i (congrArg (fun x => some (zI x)) (by rw [gT]; first | (rw [if_pos ⟨by omega, by omega⟩]; exact x1 i (by omega) (by omega)) | rw [if_neg (fun h => by omega)])) rfl

theorem ntR_0 {g : Int → Int} {p : Int} (h : nat9 (g p) = 100) : ntR g p = (100, p) := if_pos h
theorem ntR_0a {g : Int → Int} {p : Int} (h : nat9 (g p) = 100) : ntR g p = (nat9 (g p), p) := by
  rw [ntR_0 h, h]
theorem ntR_1 {g : Int → Int} {p : Int} (h : ¬ nat9 (g p) = 100) (h2 : g (p + 1) = 35) : ntR g p = (nat9 (g p) + 7, p + 1 + 1) := by
  rw [ntR, if_neg h, if_pos h2]
theorem ntR_2 {g : Int → Int} {p : Int} (h : ¬ nat9 (g p) = 100) (h1 : ¬ g (p + 1) = 35) (h2 : g (p + 1) = 98) : ntR g p = (nat9 (g p) - 7, p + 1 + 1) := by
  rw [ntR, if_neg h, if_neg h1, if_pos h2]
theorem ntR_3 {g : Int → Int} {p : Int} (h : ¬ nat9 (g p) = 100) (h1 : ¬ g (p + 1) = 35) (h2 : ¬ g (p + 1) = 98) : ntR g p = (nat9 (g p), p + 1) := by
  rw [ntR, if_neg h, if_neg h1, if_neg h2]
theorem ntR_100 (g : Int → Int) (p : Int) : (ntR g p).1 = 100 ↔ nat9 (g p) = 100 := by
  have h := nat9_b (g p)
  by_cases h0 : nat9 (g p) = 100
  · rw [ntR_0 h0]; exact ⟨fun _ => h0, fun _ => rfl⟩
  · by_cases h1 : g (p + 1) = 35
    · rw [ntR_1 h0 h1]; exact ⟨fun h => by have : nat9 (g p) + 7 = 100 := h; omega, fun h => absurd h h0⟩
    · by_cases h2 : g (p + 1) = 98
      · rw [ntR_2 h0 h1 h2]; exact ⟨fun h => by have : nat9 (g p) - 7 = 100 := h; omega, fun h => absurd h h0⟩
      · rw [ntR_3 h0 h1 h2]
set_option maxRecDepth 10000 in
set_option maxHeartbeats 1000000 in
theorem k_X10_readsNote (t : zRw) (v pa : Int → Int) (sn : Int) (tx : Int → Int) (ty si fl wi th ap nt rr rq rb wh : Int) (md na : Int → Int) (nd : Int) (up lo : Int → Int) (us lw : Int)  (ht : okT t) (hx : Tr t tx ty) (ha : 0 ≤ ap ∧ ap ≤ 900) : zMet q_X10_readsNote 1 0 0 [zR 0] (wM v pa sn tx ty si fl wi th ap nt rr rq rb wh md na nd up lo us lw) (zD (some (zI (if nat9 (gT t ap) = 100 then 0 else 1))) (wM v pa sn tx ty si fl wi th ((ntR (gT t) (ap)).2) ((ntR (gT t) (ap)).1) rr rq rb wh md na nd up lo us lw)) := by
  refine z_introF (ls := [(0, _)]) (by decide +kernel) rfl (fun _ _ => rfl) (fun _ _ => Nat.le_of_ble_eq_true rfl) ?_
  obtain ⟨x0, x1⟩ := id hx
  obtain ⟨t1, t2, t3⟩ := id ht
  have g1 := gT_b ht ap
  have g2 := gT_b ht (ap + 1)
  have g3 := nat9_b (gT t ap)
  refine wa_aload_n (pc' := 1) dX10_readsNote_0 rfl rfl rfl ?_
  refine wa_aload_n (pc' := 2) dX10_readsNote_1 rfl rfl rfl ?_
  refine wa_aload_n (pc' := 3) dX10_readsNote_2 rfl rfl rfl ?_
  refine wa_aload_n (pc' := 4) dX10_readsNote_3 rfl rfl rfl ?_
  refine wa_getfield (pc' := 7) (j := 11) zc_X10 lk_X10_59 dX10_readsNote_4 rfl (by decide) rfl rfl ?_
  refine wa_rI2 (pc' := 10) (st := [_, _]) (k_X10_sign t _ _ _ _ _ _ _ _ _ _ _ _ _ _ _ _ _ _ _ _ _ _ ap ht hx (by omega)) ok_X10_sign lm_X10_62 dX10_readsNote_7 rfl (wM_ok _ _ _ _ _ _ _ _ _ _ _ _ _ _ _ _ _ _ _ _ _ _) rfl rfl (Nat.le_of_ble_eq_true rfl) rfl rfl rfl rfl (by decide) (Nat.le_of_ble_eq_true rfl) rfl (by decide) (by decide) rfl rfl ?_
  refine wa_rI2 (pc' := 13) (st := [_]) (k_X10_placeOf _ _ _ _ _ _ _ _ _ _ _ _ _ _ _ _ _ _ _ _ _ _ _ (by omega)) ok_X10_placeOf lm_X10_65 dX10_readsNote_10 rfl (wM_ok _ _ _ _ _ _ _ _ _ _ _ _ _ _ _ _ _ _ _ _ _ _) rfl rfl (Nat.le_of_ble_eq_true rfl) rfl rfl rfl rfl (by decide) (Nat.le_of_ble_eq_true rfl) rfl (by decide) (by decide) rfl rfl ?_
  refine wa_putfield (pc' := 16) (j := 12) (w' := [zO _ [_, _, _, _, _, _, _, _, _, _, _, _, _, _, _, _, _, _, _, _, _, _, _, _], _, _, _, _, _, _, _, _, _]) zc_X10 lk_X10_68 dX10_readsNote_13 rfl (by decide) rfl rfl (Nat.le_of_ble_eq_true rfl) True.intro rfl ?_
  refine wa_aload_n (pc' := 17) dX10_readsNote_16 rfl rfl rfl ?_
  refine wa_getfield (pc' := 20) (j := 12) zc_X10 lk_X10_68 dX10_readsNote_17 rfl (by decide) rfl rfl ?_
  refine wa_bipush (pc' := 22) dX10_readsNote_20 rfl rfl ?_
  refine wa_icmp_ne (tgt := 27) (pc' := 25) dX10_readsNote_22 (by decide) rfl (by omega) (by omega) (fun c22 => ?_) (fun c22 => ?_)
  · refine wa_aload_n (pc' := 28) dX10_readsNote_27 rfl rfl rfl ?_
    refine wa_dup (pc' := 29) dX10_readsNote_28 rfl rfl ?_
    refine wa_getfield (pc' := 32) (j := 11) zc_X10 lk_X10_59 dX10_readsNote_29 rfl (by decide) rfl rfl ?_
    refine wa_iconst (pc' := 33) dX10_readsNote_32 rfl ?_
    refine wa_iadd (pc' := 34) dX10_readsNote_33 rfl ?_
    refine wa_putfield (pc' := 37) (j := 11) (w' := [zO _ [_, _, _, _, _, _, _, _, _, _, _, _, _, _, _, _, _, _, _, _, _, _, _, _], _, _, _, _, _, _, _, _, _]) zc_X10 lk_X10_59 dX10_readsNote_34 rfl (by decide) rfl rfl (Nat.le_of_ble_eq_true rfl) True.intro rfl ?_
    refine wa_aload_n (pc' := 38) dX10_readsNote_37 rfl rfl rfl ?_
    refine wa_aload_n (pc' := 39) dX10_readsNote_38 rfl rfl rfl ?_
    refine wa_getfield (pc' := 42) (j := 11) zc_X10 lk_X10_59 dX10_readsNote_39 rfl (by decide) rfl rfl ?_
    refine wa_rI2 (pc' := 45) (st := []) (k_X10_sign t _ _ _ _ _ _ _ _ _ _ _ _ _ _ _ _ _ _ _ _ _ _ (ap + 1) ht hx (by omega)) ok_X10_sign lm_X10_62 dX10_readsNote_42 rfl (wM_ok _ _ _ _ _ _ _ _ _ _ _ _ _ _ _ _ _ _ _ _ _ _) rfl rfl (Nat.le_of_ble_eq_true rfl) rfl rfl rfl rfl (by decide) (Nat.le_of_ble_eq_true rfl) rfl (by decide) (by decide) rfl rfl ?_
    refine wa_bipush (pc' := 47) dX10_readsNote_45 rfl rfl ?_
    refine wa_icmp_eq (tgt := 63) (pc' := 50) dX10_readsNote_47 (by decide) rfl (by omega) (by omega) (fun c47 => ?_) (fun c47 => ?_)
    · refine wa_aload_n (pc' := 64) dX10_readsNote_63 rfl rfl rfl ?_
      refine wa_dup (pc' := 65) dX10_readsNote_64 rfl rfl ?_
      refine wa_getfield (pc' := 68) (j := 12) zc_X10 lk_X10_68 dX10_readsNote_65 rfl (by decide) rfl rfl ?_
      refine wa_aload_n (pc' := 69) dX10_readsNote_68 rfl rfl rfl ?_
      refine wa_aload_n (pc' := 70) dX10_readsNote_69 rfl rfl rfl ?_
      refine wa_getfield (pc' := 73) (j := 11) zc_X10 lk_X10_59 dX10_readsNote_70 rfl (by decide) rfl rfl ?_
      refine wa_rI2 (pc' := 76) (st := [_, _]) (k_X10_sign t _ _ _ _ _ _ _ _ _ _ _ _ _ _ _ _ _ _ _ _ _ _ (ap + 1) ht hx (by omega)) ok_X10_sign lm_X10_62 dX10_readsNote_73 rfl (wM_ok _ _ _ _ _ _ _ _ _ _ _ _ _ _ _ _ _ _ _ _ _ _) rfl rfl (Nat.le_of_ble_eq_true rfl) rfl rfl rfl rfl (by decide) (Nat.le_of_ble_eq_true rfl) rfl (by decide) (by decide) rfl rfl ?_
      refine wa_bipush (pc' := 78) dX10_readsNote_76 rfl rfl ?_
      refine wa_icmp_ne (tgt := 86) (pc' := 81) dX10_readsNote_78 (by decide) rfl (by omega) (by omega) (fun c78 => ?_) (fun c78 => ?_)
      · refine wa_bipush (pc' := 88) dX10_readsNote_86 rfl rfl ?_
        refine wa_iadd (pc' := 89) dX10_readsNote_88 rfl ?_
        refine wa_putfield (pc' := 92) (j := 12) (w' := [zO _ [_, _, _, _, _, _, _, _, _, _, _, _, _, _, _, _, _, _, _, _, _, _, _, _], _, _, _, _, _, _, _, _, _]) zc_X10 lk_X10_68 dX10_readsNote_89 rfl (by decide) rfl rfl (Nat.le_of_ble_eq_true rfl) True.intro rfl ?_
        refine wa_aload_n (pc' := 93) dX10_readsNote_92 rfl rfl rfl ?_
        refine wa_dup (pc' := 94) dX10_readsNote_93 rfl rfl ?_
        refine wa_getfield (pc' := 97) (j := 11) zc_X10 lk_X10_59 dX10_readsNote_94 rfl (by decide) rfl rfl ?_
        refine wa_iconst (pc' := 98) dX10_readsNote_97 rfl ?_
        refine wa_iadd (pc' := 99) dX10_readsNote_98 rfl ?_
        refine wa_putfield (pc' := 102) (j := 11) (w' := [zO _ [_, _, _, _, _, _, _, _, _, _, _, _, _, _, _, _, _, _, _, _, _, _, _, _], _, _, _, _, _, _, _, _, _]) zc_X10 lk_X10_59 dX10_readsNote_99 rfl (by decide) rfl rfl (Nat.le_of_ble_eq_true rfl) True.intro rfl ?_
        refine wa_iconst (pc' := 103) dX10_readsNote_102 rfl ?_
        refine wa_zret dX10_readsNote_103 rfl (by decide) (by decide) (by omega) ?_
        first | (exfalso; omega) | exact zD_i (by rw [if_pos (by omega)]) (by rw [ntR_0a (by omega) ] <;> rfl) | exact zD_i (by rw [if_neg (by omega)]) (by rw [ntR_1 (by omega) (by omega) ] <;> rfl) | exact zD_i (by rw [if_neg (by omega)]) (by rw [ntR_2 (by omega) (by omega) (by omega) ] <;> rfl) | exact zD_i (by rw [if_neg (by omega)]) (by rw [ntR_3 (by omega) (by omega) (by omega) ] <;> rfl)
      · refine wa_bipush (pc' := 83) dX10_readsNote_81 rfl rfl ?_
        refine wa_goto (pc' := 88) dX10_readsNote_83 (by decide) ?_
        refine wa_iadd (pc' := 89) dX10_readsNote_88 rfl ?_
        refine wa_putfield (pc' := 92) (j := 12) (w' := [zO _ [_, _, _, _, _, _, _, _, _, _, _, _, _, _, _, _, _, _, _, _, _, _, _, _], _, _, _, _, _, _, _, _, _]) zc_X10 lk_X10_68 dX10_readsNote_89 rfl (by decide) rfl rfl (Nat.le_of_ble_eq_true rfl) True.intro rfl ?_
        refine wa_aload_n (pc' := 93) dX10_readsNote_92 rfl rfl rfl ?_
        refine wa_dup (pc' := 94) dX10_readsNote_93 rfl rfl ?_
        refine wa_getfield (pc' := 97) (j := 11) zc_X10 lk_X10_59 dX10_readsNote_94 rfl (by decide) rfl rfl ?_
        refine wa_iconst (pc' := 98) dX10_readsNote_97 rfl ?_
        refine wa_iadd (pc' := 99) dX10_readsNote_98 rfl ?_
        refine wa_putfield (pc' := 102) (j := 11) (w' := [zO _ [_, _, _, _, _, _, _, _, _, _, _, _, _, _, _, _, _, _, _, _, _, _, _, _], _, _, _, _, _, _, _, _, _]) zc_X10 lk_X10_59 dX10_readsNote_99 rfl (by decide) rfl rfl (Nat.le_of_ble_eq_true rfl) True.intro rfl ?_
        refine wa_iconst (pc' := 103) dX10_readsNote_102 rfl ?_
        refine wa_zret dX10_readsNote_103 rfl (by decide) (by decide) (by omega) ?_
        first | (exfalso; omega) | exact zD_i (by rw [if_pos (by omega)]) (by rw [ntR_0a (by omega) ] <;> rfl) | exact zD_i (by rw [if_neg (by omega)]) (by rw [ntR_1 (by omega) (by omega) ] <;> rfl) | exact zD_i (by rw [if_neg (by omega)]) (by rw [ntR_2 (by omega) (by omega) (by omega) ] <;> rfl) | exact zD_i (by rw [if_neg (by omega)]) (by rw [ntR_3 (by omega) (by omega) (by omega) ] <;> rfl)
    · refine wa_aload_n (pc' := 51) dX10_readsNote_50 rfl rfl rfl ?_
      refine wa_aload_n (pc' := 52) dX10_readsNote_51 rfl rfl rfl ?_
      refine wa_getfield (pc' := 55) (j := 11) zc_X10 lk_X10_59 dX10_readsNote_52 rfl (by decide) rfl rfl ?_
      refine wa_rI2 (pc' := 58) (st := []) (k_X10_sign t _ _ _ _ _ _ _ _ _ _ _ _ _ _ _ _ _ _ _ _ _ _ (ap + 1) ht hx (by omega)) ok_X10_sign lm_X10_62 dX10_readsNote_55 rfl (wM_ok _ _ _ _ _ _ _ _ _ _ _ _ _ _ _ _ _ _ _ _ _ _) rfl rfl (Nat.le_of_ble_eq_true rfl) rfl rfl rfl rfl (by decide) (Nat.le_of_ble_eq_true rfl) rfl (by decide) (by decide) rfl rfl ?_
      refine wa_bipush (pc' := 60) dX10_readsNote_58 rfl rfl ?_
      refine wa_icmp_ne (tgt := 102) (pc' := 63) dX10_readsNote_60 (by decide) rfl (by omega) (by omega) (fun c60 => ?_) (fun c60 => ?_)
      · refine wa_iconst (pc' := 103) dX10_readsNote_102 rfl ?_
        refine wa_zret dX10_readsNote_103 rfl (by decide) (by decide) (by omega) ?_
        first | (exfalso; omega) | exact zD_i (by rw [if_pos (by omega)]) (by rw [ntR_0a (by omega) ] <;> rfl) | exact zD_i (by rw [if_neg (by omega)]) (by rw [ntR_1 (by omega) (by omega) ] <;> rfl) | exact zD_i (by rw [if_neg (by omega)]) (by rw [ntR_2 (by omega) (by omega) (by omega) ] <;> rfl) | exact zD_i (by rw [if_neg (by omega)]) (by rw [ntR_3 (by omega) (by omega) (by omega) ] <;> rfl)
      · refine wa_aload_n (pc' := 64) dX10_readsNote_63 rfl rfl rfl ?_
        refine wa_dup (pc' := 65) dX10_readsNote_64 rfl rfl ?_
        refine wa_getfield (pc' := 68) (j := 12) zc_X10 lk_X10_68 dX10_readsNote_65 rfl (by decide) rfl rfl ?_
        refine wa_aload_n (pc' := 69) dX10_readsNote_68 rfl rfl rfl ?_
        refine wa_aload_n (pc' := 70) dX10_readsNote_69 rfl rfl rfl ?_
        refine wa_getfield (pc' := 73) (j := 11) zc_X10 lk_X10_59 dX10_readsNote_70 rfl (by decide) rfl rfl ?_
        refine wa_rI2 (pc' := 76) (st := [_, _]) (k_X10_sign t _ _ _ _ _ _ _ _ _ _ _ _ _ _ _ _ _ _ _ _ _ _ (ap + 1) ht hx (by omega)) ok_X10_sign lm_X10_62 dX10_readsNote_73 rfl (wM_ok _ _ _ _ _ _ _ _ _ _ _ _ _ _ _ _ _ _ _ _ _ _) rfl rfl (Nat.le_of_ble_eq_true rfl) rfl rfl rfl rfl (by decide) (Nat.le_of_ble_eq_true rfl) rfl (by decide) (by decide) rfl rfl ?_
        refine wa_bipush (pc' := 78) dX10_readsNote_76 rfl rfl ?_
        refine wa_icmp_ne (tgt := 86) (pc' := 81) dX10_readsNote_78 (by decide) rfl (by omega) (by omega) (fun c78 => ?_) (fun c78 => ?_)
        · refine wa_bipush (pc' := 88) dX10_readsNote_86 rfl rfl ?_
          refine wa_iadd (pc' := 89) dX10_readsNote_88 rfl ?_
          refine wa_putfield (pc' := 92) (j := 12) (w' := [zO _ [_, _, _, _, _, _, _, _, _, _, _, _, _, _, _, _, _, _, _, _, _, _, _, _], _, _, _, _, _, _, _, _, _]) zc_X10 lk_X10_68 dX10_readsNote_89 rfl (by decide) rfl rfl (Nat.le_of_ble_eq_true rfl) True.intro rfl ?_
          refine wa_aload_n (pc' := 93) dX10_readsNote_92 rfl rfl rfl ?_
          refine wa_dup (pc' := 94) dX10_readsNote_93 rfl rfl ?_
          refine wa_getfield (pc' := 97) (j := 11) zc_X10 lk_X10_59 dX10_readsNote_94 rfl (by decide) rfl rfl ?_
          refine wa_iconst (pc' := 98) dX10_readsNote_97 rfl ?_
          refine wa_iadd (pc' := 99) dX10_readsNote_98 rfl ?_
          refine wa_putfield (pc' := 102) (j := 11) (w' := [zO _ [_, _, _, _, _, _, _, _, _, _, _, _, _, _, _, _, _, _, _, _, _, _, _, _], _, _, _, _, _, _, _, _, _]) zc_X10 lk_X10_59 dX10_readsNote_99 rfl (by decide) rfl rfl (Nat.le_of_ble_eq_true rfl) True.intro rfl ?_
          refine wa_iconst (pc' := 103) dX10_readsNote_102 rfl ?_
          refine wa_zret dX10_readsNote_103 rfl (by decide) (by decide) (by omega) ?_
          first | (exfalso; omega) | exact zD_i (by rw [if_pos (by omega)]) (by rw [ntR_0a (by omega) ] <;> rfl) | exact zD_i (by rw [if_neg (by omega)]) (by rw [ntR_1 (by omega) (by omega) ] <;> rfl) | exact zD_i (by rw [if_neg (by omega)]) (by rw [ntR_2 (by omega) (by omega) (by omega) ] <;> rfl) | exact zD_i (by rw [if_neg (by omega)]) (by rw [ntR_3 (by omega) (by omega) (by omega) ] <;> rfl)
        · refine wa_bipush (pc' := 83) dX10_readsNote_81 rfl rfl ?_
          refine wa_goto (pc' := 88) dX10_readsNote_83 (by decide) ?_
          refine wa_iadd (pc' := 89) dX10_readsNote_88 rfl ?_
          refine wa_putfield (pc' := 92) (j := 12) (w' := [zO _ [_, _, _, _, _, _, _, _, _, _, _, _, _, _, _, _, _, _, _, _, _, _, _, _], _, _, _, _, _, _, _, _, _]) zc_X10 lk_X10_68 dX10_readsNote_89 rfl (by decide) rfl rfl (Nat.le_of_ble_eq_true rfl) True.intro rfl ?_
          refine wa_aload_n (pc' := 93) dX10_readsNote_92 rfl rfl rfl ?_
          refine wa_dup (pc' := 94) dX10_readsNote_93 rfl rfl ?_
          refine wa_getfield (pc' := 97) (j := 11) zc_X10 lk_X10_59 dX10_readsNote_94 rfl (by decide) rfl rfl ?_
          refine wa_iconst (pc' := 98) dX10_readsNote_97 rfl ?_
          refine wa_iadd (pc' := 99) dX10_readsNote_98 rfl ?_
          refine wa_putfield (pc' := 102) (j := 11) (w' := [zO _ [_, _, _, _, _, _, _, _, _, _, _, _, _, _, _, _, _, _, _, _, _, _, _, _], _, _, _, _, _, _, _, _, _]) zc_X10 lk_X10_59 dX10_readsNote_99 rfl (by decide) rfl rfl (Nat.le_of_ble_eq_true rfl) True.intro rfl ?_
          refine wa_iconst (pc' := 103) dX10_readsNote_102 rfl ?_
          refine wa_zret dX10_readsNote_103 rfl (by decide) (by decide) (by omega) ?_
          first | (exfalso; omega) | exact zD_i (by rw [if_pos (by omega)]) (by rw [ntR_0a (by omega) ] <;> rfl) | exact zD_i (by rw [if_neg (by omega)]) (by rw [ntR_1 (by omega) (by omega) ] <;> rfl) | exact zD_i (by rw [if_neg (by omega)]) (by rw [ntR_2 (by omega) (by omega) (by omega) ] <;> rfl) | exact zD_i (by rw [if_neg (by omega)]) (by rw [ntR_3 (by omega) (by omega) (by omega) ] <;> rfl)
  · refine wa_iconst (pc' := 26) dX10_readsNote_25 rfl ?_
    refine wa_zret dX10_readsNote_26 rfl (by decide) (by decide) (by omega) ?_
    first | (exfalso; omega) | exact zD_i (by rw [if_pos (by omega)]) (by rw [ntR_0a (by omega) ] <;> rfl) | exact zD_i (by rw [if_neg (by omega)]) (by rw [ntR_1 (by omega) (by omega) ] <;> rfl) | exact zD_i (by rw [if_neg (by omega)]) (by rw [ntR_2 (by omega) (by omega) (by omega) ] <;> rfl) | exact zD_i (by rw [if_neg (by omega)]) (by rw [ntR_3 (by omega) (by omega) (by omega) ] <;> rfl)

set_option maxRecDepth 10000 in
set_option maxHeartbeats 1000000 in
theorem l_like2 (t : zRw) (v pa : Int → Int) (sn : Int) (tx : Int → Int) (ty si fl wi th ap nt rr rq rb wh : Int) (md na : Int → Int) (nd : Int) (up lo : Int → Int) (us lw : Int) (q : Int) (hq : 0 ≤ q ∧ q < 10) (ht : okT t) (hx : Tr t tx ty) (ha : 0 ≤ ap ∧ ap ≤ 900) (R : Int) (n9 : Int) : ∀ (m i : Nat), i + m = (zBytes.getD q.toNat []).length → shR (gT t) ap ((zBytes.getD q.toNat []).drop i) i = R → Wa q_X10_likeQuality 1 0 0 10 (zD (some (zI R)) (wM v pa sn tx ty si fl wi th ap nt rr rq rb (if R = (zBytes.getD q.toNat []).length then 1 else 0) md na nd up lo us lw)) 56 [(4, zI (i : Int)), (3, zI (qBeg.getD q.toNat 0)), (2, zI n9), (0, zR 0), (1, zI q)] [] (wM v pa sn tx ty si fl wi th ap nt rr rq rb wh md na nd up lo us lw) 0 0 := by
  obtain ⟨x0, x1⟩ := id hx
  have b1 := qBeg_b q.toNat (by omega)
  have b2 := qua_end q.toNat (by omega)
  intro m
  induction m with
  | zero =>
    intro i hm hR
    have e1 : (((zBytes.getD q.toNat []).length : Nat) : Int) = i := by omega
    rw [e1] at b2
    rw [List.drop_eq_nil_of_le (by omega), shR] at hR
    refine wa_aload_n (pc' := 57) dX10_likeQuality_56 rfl rfl rfl ?_
    refine wa_getfield (pc' := 60) (j := 10) zc_X10 lk_X10_31 dX10_likeQuality_57 rfl (by decide) rfl rfl ?_
    refine wa_iload_n (pc' := 61) dX10_likeQuality_60 rfl rfl rfl ?_
    refine wa_iload (pc' := 63) dX10_likeQuality_61 rfl rfl ?_
    refine wa_iadd (pc' := 64) dX10_likeQuality_63 rfl ?_
    refine wa_caload (pc' := 65) dX10_likeQuality_64 rfl rfl (by omega) (by omega) (by decide) ?_
    refine wa_bipush (pc' := 67) dX10_likeQuality_65 rfl rfl ?_
    refine wa_icmp_eq (tgt := 99) (pc' := 70) dX10_likeQuality_67 (by decide) rfl (by omega) (by omega) (fun c67 => ?_) (fun c67 => ?_)
    · refine wa_aload_n (pc' := 100) dX10_likeQuality_99 rfl rfl rfl ?_
      refine wa_aload_n (pc' := 101) dX10_likeQuality_100 rfl rfl rfl ?_
      refine wa_getfield (pc' := 104) (j := 10) zc_X10 lk_X10_31 dX10_likeQuality_101 rfl (by decide) rfl rfl ?_
      refine wa_iload_n (pc' := 105) dX10_likeQuality_104 rfl rfl rfl ?_
      refine wa_iload (pc' := 107) dX10_likeQuality_105 rfl rfl ?_
      refine wa_iadd (pc' := 108) dX10_likeQuality_107 rfl ?_
      refine wa_caload (pc' := 109) dX10_likeQuality_108 rfl rfl (by omega) (by omega) (by decide) ?_
      refine wa_bipush (pc' := 111) dX10_likeQuality_109 rfl rfl ?_
      refine wa_icmp_ne (tgt := 118) (pc' := 114) dX10_likeQuality_111 (by decide) rfl (by omega) (by omega) (fun c111 => ?_) (fun c111 => ?_)
      · exact absurd b2 c111
      · refine wa_iconst (pc' := 115) dX10_likeQuality_114 rfl ?_
        refine wa_goto (pc' := 119) dX10_likeQuality_115 (by decide) ?_
        refine wa_putfield (pc' := 122) (j := 16) (w' := [zO _ [_, _, _, _, _, _, _, _, _, _, _, _, _, _, _, _, _, _, _, _, _, _, _, _], _, _, _, _, _, _, _, _, _]) zc_X10 lk_X10_71 dX10_likeQuality_119 rfl (by decide) rfl rfl (Nat.le_of_ble_eq_true rfl) (by show _ ∨ _; omega) rfl ?_
        refine wa_iload (pc' := 124) dX10_likeQuality_122 rfl rfl ?_
        refine wa_iret dX10_likeQuality_124 rfl (by decide) (by decide) ?_
        exact zD_i (by rw [← hR]) (by rw [if_pos (by omega)])
    · exact absurd b2 c67
  | succ m ih =>
    intro i hm hR
    have b3 := qua_in q.toNat (by omega) i (by omega)
    have b4 := gT_b ht (ap + i)
    rw [drop_getD _ _ (show i < (zBytes.getD q.toNat []).length by omega), shR] at hR
    refine wa_aload_n (pc' := 57) dX10_likeQuality_56 rfl rfl rfl ?_
    refine wa_getfield (pc' := 60) (j := 10) zc_X10 lk_X10_31 dX10_likeQuality_57 rfl (by decide) rfl rfl ?_
    refine wa_iload_n (pc' := 61) dX10_likeQuality_60 rfl rfl rfl ?_
    refine wa_iload (pc' := 63) dX10_likeQuality_61 rfl rfl ?_
    refine wa_iadd (pc' := 64) dX10_likeQuality_63 rfl ?_
    refine wa_caload (pc' := 65) dX10_likeQuality_64 rfl rfl (by omega) (by omega) (by decide) ?_
    refine wa_bipush (pc' := 67) dX10_likeQuality_65 rfl rfl ?_
    refine wa_icmp_eq (tgt := 99) (pc' := 70) dX10_likeQuality_67 (by decide) rfl (by have := mQua_b (qBeg.getD q.toNat 0 + i); omega) (by omega) (fun c67 => ?_) (fun c67 => ?_)
    · exact absurd (b3.1.symm.trans c67) b3.2
    · refine wa_aload_n (pc' := 71) dX10_likeQuality_70 rfl rfl rfl ?_
      refine wa_aload_n (pc' := 72) dX10_likeQuality_71 rfl rfl rfl ?_
      refine wa_getfield (pc' := 75) (j := 11) zc_X10 lk_X10_59 dX10_likeQuality_72 rfl (by decide) rfl rfl ?_
      refine wa_iload (pc' := 77) dX10_likeQuality_75 rfl rfl ?_
      refine wa_iadd (pc' := 78) dX10_likeQuality_77 rfl ?_
      refine wa_rI2 (pc' := 81) (st := []) (k_X10_sign t _ _ _ _ _ _ _ _ _ _ _ _ _ _ _ _ _ _ _ _ _ _ (ap + i) ht hx (by omega)) ok_X10_sign lm_X10_62 dX10_likeQuality_78 rfl (wM_ok _ _ _ _ _ _ _ _ _ _ _ _ _ _ _ _ _ _ _ _ _ _) rfl rfl (Nat.le_of_ble_eq_true rfl) rfl rfl rfl rfl (by decide) (Nat.le_of_ble_eq_true rfl) rfl (by decide) (by decide) rfl rfl ?_
      refine wa_aload_n (pc' := 82) dX10_likeQuality_81 rfl rfl rfl ?_
      refine wa_getfield (pc' := 85) (j := 10) zc_X10 lk_X10_31 dX10_likeQuality_82 rfl (by decide) rfl rfl ?_
      refine wa_iload_n (pc' := 86) dX10_likeQuality_85 rfl rfl rfl ?_
      refine wa_iload (pc' := 88) dX10_likeQuality_86 rfl rfl ?_
      refine wa_iadd (pc' := 89) dX10_likeQuality_88 rfl ?_
      refine wa_caload (pc' := 90) dX10_likeQuality_89 rfl rfl (by omega) (by omega) (by decide) ?_
      refine wa_icmp_ne (tgt := 99) (pc' := 93) dX10_likeQuality_90 (by decide) rfl (by omega) (by have := mQua_b (qBeg.getD q.toNat 0 + i); omega) (fun c90 => ?_) (fun c90 => ?_)
      · rw [if_neg (by rw [← b3.1]; omega)] at hR
        refine wa_aload_n (pc' := 100) dX10_likeQuality_99 rfl rfl rfl ?_
        refine wa_aload_n (pc' := 101) dX10_likeQuality_100 rfl rfl rfl ?_
        refine wa_getfield (pc' := 104) (j := 10) zc_X10 lk_X10_31 dX10_likeQuality_101 rfl (by decide) rfl rfl ?_
        refine wa_iload_n (pc' := 105) dX10_likeQuality_104 rfl rfl rfl ?_
        refine wa_iload (pc' := 107) dX10_likeQuality_105 rfl rfl ?_
        refine wa_iadd (pc' := 108) dX10_likeQuality_107 rfl ?_
        refine wa_caload (pc' := 109) dX10_likeQuality_108 rfl rfl (by omega) (by omega) (by decide) ?_
        refine wa_bipush (pc' := 111) dX10_likeQuality_109 rfl rfl ?_
        refine wa_icmp_ne (tgt := 118) (pc' := 114) dX10_likeQuality_111 (by decide) rfl (by have := mQua_b (qBeg.getD q.toNat 0 + i); omega) (by omega) (fun c111 => ?_) (fun c111 => ?_)
        · refine wa_iconst (pc' := 119) dX10_likeQuality_118 rfl ?_
          refine wa_putfield (pc' := 122) (j := 16) (w' := [zO _ [_, _, _, _, _, _, _, _, _, _, _, _, _, _, _, _, _, _, _, _, _, _, _, _], _, _, _, _, _, _, _, _, _]) zc_X10 lk_X10_71 dX10_likeQuality_119 rfl (by decide) rfl rfl (Nat.le_of_ble_eq_true rfl) (by show _ ∨ _; omega) rfl ?_
          refine wa_iload (pc' := 124) dX10_likeQuality_122 rfl rfl ?_
          refine wa_iret dX10_likeQuality_124 rfl (by decide) (by decide) ?_
          exact zD_i (by rw [← hR]) (by rw [if_neg (by omega)])
        · exact absurd (b3.1.symm.trans c111) b3.2
      · rw [if_pos (by rw [← b3.1]; omega)] at hR
        refine wa_iinc (pc' := 96) (ls' := [(4, _), (3, _), (2, _), (0, _), (1, _)]) dX10_likeQuality_93 rfl rfl (by decide) rfl ?_
        refine wa_goto (pc' := 56) dX10_likeQuality_96 (by decide) ?_
        exact ih (i + 1) (by omega) (by rw [← hR]; rfl)

set_option maxRecDepth 10000 in
set_option maxHeartbeats 1000000 in
theorem l_like1 (t : zRw) (v pa : Int → Int) (sn : Int) (tx : Int → Int) (ty si fl wi th ap nt rr rq rb wh : Int) (md na : Int → Int) (nd : Int) (up lo : Int → Int) (us lw : Int) (q : Int) (hq : 0 ≤ q ∧ q < 10) (ht : okT t) (hx : Tr t tx ty) (ha : 0 ≤ ap ∧ ap ≤ 900) (R : Int) (hR0 : (shR (gT t) ap (zBytes.getD q.toNat []) 0) = R) : ∀ (m : Nat) (k n b : Int), 0 ≤ k → k + m = 30 → (0 ≤ n ∧ n ≤ k) → (0 ≤ b ∧ b ≤ 30) → lkR q m k n b = qBeg.getD q.toNat 0 → Wa q_X10_likeQuality 1 0 0 10 (zD (some (zI R)) (wM v pa sn tx ty si fl wi th ap nt rr rq rb (if R = (zBytes.getD q.toNat []).length then 1 else 0) md na nd up lo us lw)) 7 [(4, zI k), (3, zI b), (2, zI n), (0, zR 0), (1, zI q)] [] (wM v pa sn tx ty si fl wi th ap nt rr rq rb wh md na nd up lo us lw) 0 0 := by
  intro m
  induction m with
  | zero =>
    intro k n b h0 hm hn hb hR
    have hR9 : b = qBeg.getD q.toNat 0 := hR
    subst hR9
    refine wa_iload (pc' := 9) dX10_likeQuality_7 rfl rfl ?_
    refine wa_aload_n (pc' := 10) dX10_likeQuality_9 rfl rfl rfl ?_
    refine wa_getfield (pc' := 13) (j := 10) zc_X10 lk_X10_31 dX10_likeQuality_10 rfl (by decide) rfl rfl ?_
    refine wa_alen (pc' := 14) dX10_likeQuality_13 rfl rfl (by decide) ?_
    refine wa_icmp_ge (tgt := 53) (pc' := 17) dX10_likeQuality_14 (by decide) rfl (by omega) (by omega) (fun c14 => ?_) (fun c14 => ?_)
    · refine wa_iconst (pc' := 54) dX10_likeQuality_53 rfl ?_
      refine wa_istore (pc' := 56) (ls' := [(4, _), (3, _), (2, _), (0, _), (1, _)]) dX10_likeQuality_54 rfl (by decide) rfl ?_
      exact l_like2 t v pa sn tx ty si fl wi th ap nt rr rq rb wh md na nd up lo us lw q hq ht hx ha R n (zBytes.getD q.toNat []).length 0 (by omega) (by rw [List.drop_zero]; exact hR0)
    · exact absurd c14 (by omega)
  | succ m ih =>
    intro k n b h0 hm hn hb hR
    have hqb := mQua_b k
    refine wa_iload (pc' := 9) dX10_likeQuality_7 rfl rfl ?_
    refine wa_aload_n (pc' := 10) dX10_likeQuality_9 rfl rfl rfl ?_
    refine wa_getfield (pc' := 13) (j := 10) zc_X10 lk_X10_31 dX10_likeQuality_10 rfl (by decide) rfl rfl ?_
    refine wa_alen (pc' := 14) dX10_likeQuality_13 rfl rfl (by decide) ?_
    refine wa_icmp_ge (tgt := 53) (pc' := 17) dX10_likeQuality_14 (by decide) rfl (by omega) (by omega) (fun c14 => ?_) (fun c14 => ?_)
    · exact absurd c14 (by omega)
    · refine wa_iload_n (pc' := 18) dX10_likeQuality_17 rfl rfl rfl ?_
      refine wa_iload_n (pc' := 19) dX10_likeQuality_18 rfl rfl rfl ?_
      refine wa_icmp_ge (tgt := 53) (pc' := 22) dX10_likeQuality_19 (by decide) rfl (by omega) (by omega) (fun c19 => ?_) (fun c19 => ?_)
      · rw [lkR, if_neg (by omega)] at hR
        subst hR
        refine wa_iconst (pc' := 54) dX10_likeQuality_53 rfl ?_
        refine wa_istore (pc' := 56) (ls' := [(4, _), (3, _), (2, _), (0, _), (1, _)]) dX10_likeQuality_54 rfl (by decide) rfl ?_
        exact l_like2 t v pa sn tx ty si fl wi th ap nt rr rq rb wh md na nd up lo us lw q hq ht hx ha R n (zBytes.getD q.toNat []).length 0 (by omega) (by rw [List.drop_zero]; exact hR0)
      · rw [lkR, if_pos (by omega)] at hR
        refine wa_iload_n (pc' := 23) dX10_likeQuality_22 rfl rfl rfl ?_
        refine wa_aload_n (pc' := 24) dX10_likeQuality_23 rfl rfl rfl ?_
        refine wa_getfield (pc' := 27) (j := 10) zc_X10 lk_X10_31 dX10_likeQuality_24 rfl (by decide) rfl rfl ?_
        refine wa_iload (pc' := 29) dX10_likeQuality_27 rfl rfl ?_
        refine wa_caload (pc' := 30) dX10_likeQuality_29 rfl rfl (by omega) (by omega) (by decide) ?_
        refine wa_bipush (pc' := 32) dX10_likeQuality_30 rfl rfl ?_
        refine wa_icmp_ne (tgt := 39) (pc' := 35) dX10_likeQuality_32 (by decide) rfl (by omega) (by omega) (fun c32 => ?_) (fun c32 => ?_)
        · refine wa_iconst (pc' := 40) dX10_likeQuality_39 rfl ?_
          refine wa_iadd (pc' := 41) dX10_likeQuality_40 rfl ?_
          refine wa_istore_n (pc' := 42) (ls' := [(2, _), (4, _), (3, _), (0, _), (1, _)]) dX10_likeQuality_41 rfl rfl (by decide) rfl ?_
          refine wa_iload (pc' := 44) dX10_likeQuality_42 rfl rfl ?_
          refine wa_iconst (pc' := 45) dX10_likeQuality_44 rfl ?_
          refine wa_iadd (pc' := 46) dX10_likeQuality_45 rfl ?_
          refine wa_istore_n (pc' := 47) (ls' := [(3, _), (2, _), (4, _), (0, _), (1, _)]) dX10_likeQuality_46 rfl rfl (by decide) rfl ?_
          refine wa_iinc (pc' := 50) (ls' := [(4, _), (3, _), (2, _), (0, _), (1, _)]) dX10_likeQuality_47 rfl rfl (by decide) rfl ?_
          refine wa_goto (pc' := 7) dX10_likeQuality_50 (by decide) ?_
          first | (rw [if_pos (by omega)] at hR; exact ih (k + 1) (n + 1) (k + 1) (by omega) (by omega) (by omega) (by omega) hR) | (rw [if_neg (by omega)] at hR; exact ih (k + 1) (n + 0) (k + 1) (by omega) (by omega) (by omega) (by omega) hR)
        · refine wa_iconst (pc' := 36) dX10_likeQuality_35 rfl ?_
          refine wa_goto (pc' := 40) dX10_likeQuality_36 (by decide) ?_
          refine wa_iadd (pc' := 41) dX10_likeQuality_40 rfl ?_
          refine wa_istore_n (pc' := 42) (ls' := [(2, _), (4, _), (3, _), (0, _), (1, _)]) dX10_likeQuality_41 rfl rfl (by decide) rfl ?_
          refine wa_iload (pc' := 44) dX10_likeQuality_42 rfl rfl ?_
          refine wa_iconst (pc' := 45) dX10_likeQuality_44 rfl ?_
          refine wa_iadd (pc' := 46) dX10_likeQuality_45 rfl ?_
          refine wa_istore_n (pc' := 47) (ls' := [(3, _), (2, _), (4, _), (0, _), (1, _)]) dX10_likeQuality_46 rfl rfl (by decide) rfl ?_
          refine wa_iinc (pc' := 50) (ls' := [(4, _), (3, _), (2, _), (0, _), (1, _)]) dX10_likeQuality_47 rfl rfl (by decide) rfl ?_
          refine wa_goto (pc' := 7) dX10_likeQuality_50 (by decide) ?_
          first | (rw [if_pos (by omega)] at hR; exact ih (k + 1) (n + 1) (k + 1) (by omega) (by omega) (by omega) (by omega) hR) | (rw [if_neg (by omega)] at hR; exact ih (k + 1) (n + 0) (k + 1) (by omega) (by omega) (by omega) (by omega) hR)

set_option maxRecDepth 10000 in
set_option maxHeartbeats 1000000 in
theorem k_X10_likeQuality (t : zRw) (v pa : Int → Int) (sn : Int) (tx : Int → Int) (ty si fl wi th ap nt rr rq rb wh : Int) (md na : Int → Int) (nd : Int) (up lo : Int → Int) (us lw : Int) (q : Int) (ht : okT t) (hx : Tr t tx ty) (hq : 0 ≤ q ∧ q < 10) (ha : 0 ≤ ap ∧ ap ≤ 900) : zMet q_X10_likeQuality 1 0 0 [zR 0, zI q] (wM v pa sn tx ty si fl wi th ap nt rr rq rb wh md na nd up lo us lw) (zD (some (zI ((shR (gT t) ap (zBytes.getD q.toNat []) 0)))) (wM v pa sn tx ty si fl wi th ap nt rr rq rb (if (shR (gT t) ap (zBytes.getD q.toNat []) 0) = (zBytes.getD q.toNat []).length then 1 else 0) md na nd up lo us lw)) := by
  refine z_introF (ls := [(0, _), (1, _)]) (by decide +kernel) rfl (fun _ _ => rfl) (fun _ _ => Nat.le_of_ble_eq_true rfl) ?_
  obtain ⟨x0, x1⟩ := id hx
  obtain ⟨t1, t2, t3⟩ := id ht
  refine wa_iconst (pc' := 1) dX10_likeQuality_0 rfl ?_
  refine wa_istore_n (pc' := 2) (ls' := [(2, _), (0, _), (1, _)]) dX10_likeQuality_1 rfl rfl (by decide) rfl ?_
  refine wa_iconst (pc' := 3) dX10_likeQuality_2 rfl ?_
  refine wa_istore_n (pc' := 4) (ls' := [(3, _), (2, _), (0, _), (1, _)]) dX10_likeQuality_3 rfl rfl (by decide) rfl ?_
  refine wa_iconst (pc' := 5) dX10_likeQuality_4 rfl ?_
  refine wa_istore (pc' := 7) (ls' := [(4, _), (3, _), (2, _), (0, _), (1, _)]) dX10_likeQuality_5 rfl (by decide) rfl ?_
  exact l_like1 t v pa sn tx ty si fl wi th ap nt rr rq rb wh md na nd up lo us lw q hq ht hx ha _ rfl 30 0 0 0 (by omega) (by omega) (by omega) (by omega) (by have := lkR_e q.toNat (by omega); rwa [show ((q.toNat : Nat) : Int) = q by omega] at this)

theorem itn1 {P : Prop} [Decidable P] (h : ¬ (if P then (0 : Int) else 1) = 0) : ¬ P := by
  split at h
  · exact absurd rfl h
  · assumption
theorem itn0 {P : Prop} [Decidable P] (h : (if P then (0 : Int) else 1) = 0) : P := by
  split at h
  · assumption
  · exact absurd h (by decide)
/-- a chord: the answer; where it stops, the last note, root, quality, bass, the last quality's wholeness -/
def mcR (g : Int → Int) (e p rr rq rb wh : Int) : Int × Int × Int × Int × Int × Int × Int :=
  if nat9 (g p) = 100 then (0, (ntR g p).2, (ntR g p).1, rr, rq, rb, wh)
  else if (mqR g (ntR g p).2 10 0 0 0 0 wh).2.2.1 = 0 then (0, (ntR g p).2 + (mqR g (ntR g p).2 10 0 0 0 0 wh).1, (ntR g p).1, (ntR g p).1, (mqR g (ntR g p).2 10 0 0 0 0 wh).2.1, 100, (mqR g (ntR g p).2 10 0 0 0 0 wh).2.2.2)
  else if g ((ntR g p).2 + (mqR g (ntR g p).2 10 0 0 0 0 wh).1) = 47 then
    (if nat9 (g ((ntR g p).2 + (mqR g (ntR g p).2 10 0 0 0 0 wh).1 + 1)) = 100 then (0, (ntR g ((ntR g p).2 + (mqR g (ntR g p).2 10 0 0 0 0 wh).1 + 1)).2, (ntR g ((ntR g p).2 + (mqR g (ntR g p).2 10 0 0 0 0 wh).1 + 1)).1, (ntR g p).1, (mqR g (ntR g p).2 10 0 0 0 0 wh).2.1, 100, (mqR g (ntR g p).2 10 0 0 0 0 wh).2.2.2)
     else (if g (ntR g ((ntR g p).2 + (mqR g (ntR g p).2 10 0 0 0 0 wh).1 + 1)).2 = e then 1 else 0, (ntR g ((ntR g p).2 + (mqR g (ntR g p).2 10 0 0 0 0 wh).1 + 1)).2, (ntR g ((ntR g p).2 + (mqR g (ntR g p).2 10 0 0 0 0 wh).1 + 1)).1, (ntR g p).1, (mqR g (ntR g p).2 10 0 0 0 0 wh).2.1, (ntR g ((ntR g p).2 + (mqR g (ntR g p).2 10 0 0 0 0 wh).1 + 1)).1, (mqR g (ntR g p).2 10 0 0 0 0 wh).2.2.2))
  else (if g ((ntR g p).2 + (mqR g (ntR g p).2 10 0 0 0 0 wh).1) = e then 1 else 0, (ntR g p).2 + (mqR g (ntR g p).2 10 0 0 0 0 wh).1, (ntR g p).1, (ntR g p).1, (mqR g (ntR g p).2 10 0 0 0 0 wh).2.1, 100, (mqR g (ntR g p).2 10 0 0 0 0 wh).2.2.2)
theorem mcR_01 (g : Int → Int) (e p rr rq rb wh : Int) : (mcR g e p rr rq rb wh).1 = 0 ∨ (mcR g e p rr rq rb wh).1 = 1 := by
  unfold mcR
  refine ite_P (P := fun x : Int × Int × Int × Int × Int × Int × Int => x.1 = 0 ∨ x.1 = 1) (Or.inl rfl) (ite_P (P := fun x : Int × Int × Int × Int × Int × Int × Int => x.1 = 0 ∨ x.1 = 1) (Or.inl rfl) (ite_P (P := fun x : Int × Int × Int × Int × Int × Int × Int => x.1 = 0 ∨ x.1 = 1) (ite_P (P := fun x : Int × Int × Int × Int × Int × Int × Int => x.1 = 0 ∨ x.1 = 1) (Or.inl rfl) ?_) ?_))
  · show (if _ then (1 : Int) else 0) = 0 ∨ (if _ then (1 : Int) else 0) = 1
    split <;> omega
  · show (if _ then (1 : Int) else 0) = 0 ∨ (if _ then (1 : Int) else 0) = 1
    split <;> omega
set_option maxRecDepth 10000 in
set_option maxHeartbeats 1000000 in
theorem l_readQ9 (t : zRw) (v pa : Int → Int) (sn : Int) (tx : Int → Int) (ty si fl wi th ap nt rr rq rb : Int) (md na : Int → Int) (nd : Int) (up lo : Int → Int) (us lw : Int) (e : Int) (ht : okT t) (hx : Tr t tx ty) (ha : 0 ≤ ap ∧ ap ≤ 900) {Post : zP → List zE → Prop} (Q : Int × Int × Int × Int) (kk : Wa q_X10_readsChord 2 0 0 10 Post 85 [(5, zI 10), (4, zI Q.2.2.1), (3, zI Q.2.1), (2, zI Q.1), (0, zR 0), (1, zI e)] [] (wM v pa sn tx ty si fl wi th ap nt rr rq rb Q.2.2.2 md na nd up lo us lw) 0 0) : ∀ (m : Nat) (q mo be ha9 wh : Int), 0 ≤ q → q + m = 10 → (0 ≤ mo ∧ mo ≤ 8) → (ha9 = 0 ∨ ha9 = 1) → mqR (gT t) ap m q mo be ha9 wh = Q → Wa q_X10_readsChord 2 0 0 10 Post 33 [(5, zI q), (4, zI ha9), (3, zI be), (2, zI mo), (0, zR 0), (1, zI e)] [] (wM v pa sn tx ty si fl wi th ap nt rr rq rb wh md na nd up lo us lw) 0 0 := by
  intro m
  induction m with
  | zero =>
    intro q mo be ha9 wh h0 hm hmo hh hQ
    subst hQ
    have h10 : q = 10 := by omega
    subst h10
    refine wa_iload (pc' := 35) dX10_readsChord_33 rfl rfl ?_
    refine wa_bipush (pc' := 37) dX10_readsChord_35 rfl rfl ?_
    refine wa_icmp_ge (tgt := 85) (pc' := 40) dX10_readsChord_37 (by decide) rfl (by omega) (by omega) (fun c37 => ?_) (fun c37 => ?_)
    · exact kk
    · exact absurd c37 (by omega)
  | succ m ih =>
    intro q mo be ha9 wh h0 hm hmo hh hQ
    have s1 := shR_b (gT t) ap (zBytes.getD q.toNat []) 0
    have s2 := zblen (q := q.toNat) (by omega)
    rw [mqR] at hQ
    generalize hW : (if shR (gT t) ap (zBytes.getD q.toNat []) 0 = (zBytes.getD q.toNat []).length then (1 : Int) else 0) = W at hQ
    have hW2 : W = 0 ∨ W = 1 := by rw [← hW]; split <;> omega
    refine wa_iload (pc' := 35) dX10_readsChord_33 rfl rfl ?_
    refine wa_bipush (pc' := 37) dX10_readsChord_35 rfl rfl ?_
    refine wa_icmp_ge (tgt := 85) (pc' := 40) dX10_readsChord_37 (by decide) rfl (by omega) (by omega) (fun c37 => ?_) (fun c37 => ?_)
    · exact absurd c37 (by omega)
    · refine wa_aload_n (pc' := 41) dX10_readsChord_40 rfl rfl rfl ?_
      refine wa_iload (pc' := 43) dX10_readsChord_41 rfl rfl ?_
      refine wa_iD2 (pc' := 46) (st := []) (k_X10_likeQuality t _ _ _ _ _ _ _ _ _ _ _ _ _ _ _ _ _ _ _ _ _ _ q ht hx (by omega) (by omega)) ok_X10_likeQuality lm_X10_84 dX10_readsChord_43 rfl (wM_ok _ _ _ _ _ _ _ _ _ _ _ _ _ _ _ _ _ _ _ _ _ _) (Eq.refl 10) (wM_ok _ _ _ _ _ _ _ _ _ _ _ _ _ _ _ _ _ _ _ _ _ _) rfl rfl (Nat.le_of_ble_eq_true rfl) rfl rfl rfl rfl (by decide) (Nat.le_of_ble_eq_true rfl) rfl (by decide) (by decide) rfl rfl ?_
      show Wa _ _ _ _ _ _ _ _ [_] _ _ _
      rw [hW]
      refine wa_istore (pc' := 48) (ls' := [(6, _), (5, _), (4, _), (3, _), (2, _), (0, _), (1, _)]) dX10_readsChord_46 rfl (by decide) rfl ?_
      refine wa_iload (pc' := 50) dX10_readsChord_48 rfl rfl ?_
      refine wa_iload_n (pc' := 51) dX10_readsChord_50 rfl rfl rfl ?_
      refine wa_icmp_gt (tgt := 67) (pc' := 54) dX10_readsChord_51 (by decide) rfl (by omega) (by omega) (fun c51 => ?_) (fun c51 => ?_)
      · refine wa_aload_n (pc' := 68) dX10_readsChord_67 rfl rfl rfl ?_
        refine wa_getfield (pc' := 71) (j := 16) zc_X10 lk_X10_71 dX10_readsChord_68 rfl (by decide) rfl rfl ?_
        refine wa_istore (pc' := 73) (ls' := [(4, _), (6, _), (5, _), (3, _), (2, _), (0, _), (1, _)]) dX10_readsChord_71 rfl (by decide) rfl ?_
        refine wa_iload (pc' := 75) dX10_readsChord_73 rfl rfl ?_
        refine wa_istore_n (pc' := 76) (ls' := [(3, _), (4, _), (6, _), (5, _), (2, _), (0, _), (1, _)]) dX10_readsChord_75 rfl rfl (by decide) rfl ?_
        refine wa_iload (pc' := 78) dX10_readsChord_76 rfl rfl ?_
        refine wa_istore_n (pc' := 79) (ls' := [(2, _), (3, _), (4, _), (6, _), (5, _), (0, _), (1, _)]) dX10_readsChord_78 rfl rfl (by decide) rfl ?_
        refine wa_iinc (pc' := 82) (ls' := [(5, _), (2, _), (3, _), (4, _), (6, _), (0, _), (1, _)]) dX10_readsChord_79 rfl rfl (by decide) rfl ?_
        refine wa_goto (pc' := 33) dX10_readsChord_82 (by decide) ?_
        refine wa_sub [0, 3, 2, 1, 5, 6] rfl ?_
        first | (exfalso; omega) | (rw [if_pos (by omega)] at hQ; exact ih (q + 1) _ q W W (by omega) (by omega) (by omega) (by omega) hQ) | (rw [if_neg (by omega)] at hQ; exact ih (q + 1) mo be ha9 W (by omega) (by omega) (by omega) (by omega) hQ)
      · refine wa_iload (pc' := 56) dX10_readsChord_54 rfl rfl ?_
        refine wa_iload_n (pc' := 57) dX10_readsChord_56 rfl rfl rfl ?_
        refine wa_icmp_ne (tgt := 79) (pc' := 60) dX10_readsChord_57 (by decide) rfl (by omega) (by omega) (fun c57 => ?_) (fun c57 => ?_)
        · refine wa_iinc (pc' := 82) (ls' := [(5, _), (6, _), (4, _), (3, _), (2, _), (0, _), (1, _)]) dX10_readsChord_79 rfl rfl (by decide) rfl ?_
          refine wa_goto (pc' := 33) dX10_readsChord_82 (by decide) ?_
          refine wa_sub [0, 2, 3, 4, 5, 6] rfl ?_
          first | (exfalso; omega) | (rw [if_pos (by omega)] at hQ; exact ih (q + 1) _ q W W (by omega) (by omega) (by omega) (by omega) hQ) | (rw [if_neg (by omega)] at hQ; exact ih (q + 1) mo be ha9 W (by omega) (by omega) (by omega) (by omega) hQ)
        · refine wa_aload_n (pc' := 61) dX10_readsChord_60 rfl rfl rfl ?_
          refine wa_getfield (pc' := 64) (j := 16) zc_X10 lk_X10_71 dX10_readsChord_61 rfl (by decide) rfl rfl ?_
          refine wa_if_eq (tgt := 79) (pc' := 67) dX10_readsChord_64 (by decide) rfl (by omega) (fun c64 => ?_) (fun c64 => ?_)
          · refine wa_iinc (pc' := 82) (ls' := [(5, _), (6, _), (4, _), (3, _), (2, _), (0, _), (1, _)]) dX10_readsChord_79 rfl rfl (by decide) rfl ?_
            refine wa_goto (pc' := 33) dX10_readsChord_82 (by decide) ?_
            refine wa_sub [0, 2, 3, 4, 5, 6] rfl ?_
            first | (exfalso; omega) | (rw [if_pos (by omega)] at hQ; exact ih (q + 1) _ q W W (by omega) (by omega) (by omega) (by omega) hQ) | (rw [if_neg (by omega)] at hQ; exact ih (q + 1) mo be ha9 W (by omega) (by omega) (by omega) (by omega) hQ)
          · refine wa_aload_n (pc' := 68) dX10_readsChord_67 rfl rfl rfl ?_
            refine wa_getfield (pc' := 71) (j := 16) zc_X10 lk_X10_71 dX10_readsChord_68 rfl (by decide) rfl rfl ?_
            refine wa_istore (pc' := 73) (ls' := [(4, _), (6, _), (5, _), (3, _), (2, _), (0, _), (1, _)]) dX10_readsChord_71 rfl (by decide) rfl ?_
            refine wa_iload (pc' := 75) dX10_readsChord_73 rfl rfl ?_
            refine wa_istore_n (pc' := 76) (ls' := [(3, _), (4, _), (6, _), (5, _), (2, _), (0, _), (1, _)]) dX10_readsChord_75 rfl rfl (by decide) rfl ?_
            refine wa_iload (pc' := 78) dX10_readsChord_76 rfl rfl ?_
            refine wa_istore_n (pc' := 79) (ls' := [(2, _), (3, _), (4, _), (6, _), (5, _), (0, _), (1, _)]) dX10_readsChord_78 rfl rfl (by decide) rfl ?_
            refine wa_iinc (pc' := 82) (ls' := [(5, _), (2, _), (3, _), (4, _), (6, _), (0, _), (1, _)]) dX10_readsChord_79 rfl rfl (by decide) rfl ?_
            refine wa_goto (pc' := 33) dX10_readsChord_82 (by decide) ?_
            refine wa_sub [0, 3, 2, 1, 5, 6] rfl ?_
            first | (exfalso; omega) | (rw [if_pos (by omega)] at hQ; exact ih (q + 1) _ q W W (by omega) (by omega) (by omega) (by omega) hQ) | (rw [if_neg (by omega)] at hQ; exact ih (q + 1) mo be ha9 W (by omega) (by omega) (by omega) (by omega) hQ)

theorem zin126 {x : Int} (h : -1 ≤ x ∧ x ≤ 126) : zin x := ⟨by omega, by omega⟩
set_option maxRecDepth 10000 in
set_option maxHeartbeats 1000000 in
theorem k_X10_readsChord (t : zRw) (v pa : Int → Int) (sn : Int) (tx : Int → Int) (ty si fl wi th ap nt rr rq rb wh : Int) (md na : Int → Int) (nd : Int) (up lo : Int → Int) (us lw : Int) (e : Int) (ht : okT t) (hx : Tr t tx ty) (he : zin e) (ha : 0 ≤ ap ∧ ap ≤ 800) : zMet q_X10_readsChord 2 0 0 [zR 0, zI e] (wM v pa sn tx ty si fl wi th ap nt rr rq rb wh md na nd up lo us lw) (zD (some (zI ((mcR (gT t) (e) ap rr rq rb wh).1))) (wM v pa sn tx ty si fl wi th ((mcR (gT t) (e) ap rr rq rb wh).2.1) ((mcR (gT t) (e) ap rr rq rb wh).2.2.1) ((mcR (gT t) (e) ap rr rq rb wh).2.2.2.1) ((mcR (gT t) (e) ap rr rq rb wh).2.2.2.2.1) ((mcR (gT t) (e) ap rr rq rb wh).2.2.2.2.2.1) ((mcR (gT t) (e) ap rr rq rb wh).2.2.2.2.2.2) md na nd up lo us lw)) := by
  refine z_introF (ls := [(0, _), (1, _)]) (by decide +kernel) rfl (fun _ _ => rfl) (fun _ _ => Nat.le_of_ble_eq_true rfl) ?_
  obtain ⟨x0, x1⟩ := id hx
  obtain ⟨t1, t2, t3⟩ := id ht
  have n1 := ntR_b (gT t) ap
  have n2 := mqR_b (gT t) (ntR (gT t) (ap)).2 10 0 0 0 0 wh (by omega) (by omega) (by omega) (by omega)
  have n3 := ntR_b (gT t) ((ntR (gT t) (ap)).2 + (mqR (gT t) (ntR (gT t) (ap)).2 10 0 0 0 0 wh).1 + 1)
  have n4 := fun i => gT_b ht i
  refine wa_aload_n (pc' := 1) dX10_readsChord_0 rfl rfl rfl ?_
  refine wa_iD2 (pc' := 4) (st := []) (k_X10_readsNote t _ _ _ _ _ _ _ _ _ _ _ _ _ _ _ _ _ _ _ _ _ _ ht hx (by omega)) ok_X10_readsNote lm_X10_74 dX10_readsChord_1 rfl (wM_ok _ _ _ _ _ _ _ _ _ _ _ _ _ _ _ _ _ _ _ _ _ _) (Eq.refl 10) (wM_ok _ _ _ _ _ _ _ _ _ _ _ _ _ _ _ _ _ _ _ _ _ _) rfl rfl (Nat.le_of_ble_eq_true rfl) rfl rfl rfl rfl (by decide) (Nat.le_of_ble_eq_true rfl) rfl (by decide) (by decide) rfl rfl ?_
  show Wa _ _ _ _ _ _ _ _ [_] _ _ _
  refine wa_if_ne (tgt := 9) (pc' := 7) dX10_readsChord_4 (by decide) rfl (by split <;> omega) (fun c4 => ?_) (fun c4 => ?_)
  · have h4 := itn1 c4
    refine wa_aload_n (pc' := 10) dX10_readsChord_9 rfl rfl rfl ?_
    refine wa_aload_n (pc' := 11) dX10_readsChord_10 rfl rfl rfl ?_
    refine wa_getfield (pc' := 14) (j := 12) zc_X10 lk_X10_68 dX10_readsChord_11 rfl (by decide) rfl rfl ?_
    refine wa_putfield (pc' := 17) (j := 13) (w' := [zO _ [_, _, _, _, _, _, _, _, _, _, _, _, _, _, _, _, _, _, _, _, _, _, _, _], _, _, _, _, _, _, _, _, _]) zc_X10 lk_X10_78 dX10_readsChord_14 rfl (by decide) rfl rfl (Nat.le_of_ble_eq_true rfl) True.intro rfl ?_
    refine wa_aload_n (pc' := 18) dX10_readsChord_17 rfl rfl rfl ?_
    refine wa_bipush (pc' := 20) dX10_readsChord_18 rfl rfl ?_
    refine wa_putfield (pc' := 23) (j := 15) (w' := [zO _ [_, _, _, _, _, _, _, _, _, _, _, _, _, _, _, _, _, _, _, _, _, _, _, _], _, _, _, _, _, _, _, _, _]) zc_X10 lk_X10_81 dX10_readsChord_20 rfl (by decide) rfl rfl (Nat.le_of_ble_eq_true rfl) True.intro rfl ?_
    refine wa_iconst (pc' := 24) dX10_readsChord_23 rfl ?_
    refine wa_istore_n (pc' := 25) (ls' := [(2, _), (0, _), (1, _)]) dX10_readsChord_24 rfl rfl (by decide) rfl ?_
    refine wa_iconst (pc' := 26) dX10_readsChord_25 rfl ?_
    refine wa_istore_n (pc' := 27) (ls' := [(3, _), (2, _), (0, _), (1, _)]) dX10_readsChord_26 rfl rfl (by decide) rfl ?_
    refine wa_iconst (pc' := 28) dX10_readsChord_27 rfl ?_
    refine wa_istore (pc' := 30) (ls' := [(4, _), (3, _), (2, _), (0, _), (1, _)]) dX10_readsChord_28 rfl (by decide) rfl ?_
    refine wa_iconst (pc' := 31) dX10_readsChord_30 rfl ?_
    refine wa_istore (pc' := 33) (ls' := [(5, _), (4, _), (3, _), (2, _), (0, _), (1, _)]) dX10_readsChord_31 rfl (by decide) rfl ?_
    refine l_readQ9 t _ _ _ _ _ _ _ _ _ _ _ _ _ _ _ _ _ _ _ _ _ e ht hx (by omega) _ ?_ 10 0 0 0 0 wh (by omega) (by omega) (by omega) (by omega) rfl
    refine wa_aload_n (pc' := 86) dX10_readsChord_85 rfl rfl rfl ?_
    refine wa_dup (pc' := 87) dX10_readsChord_86 rfl rfl ?_
    refine wa_getfield (pc' := 90) (j := 11) zc_X10 lk_X10_59 dX10_readsChord_87 rfl (by decide) rfl rfl ?_
    refine wa_iload_n (pc' := 91) dX10_readsChord_90 rfl rfl rfl ?_
    refine wa_iadd (pc' := 92) dX10_readsChord_91 rfl ?_
    refine wa_putfield (pc' := 95) (j := 11) (w' := [zO _ [_, _, _, _, _, _, _, _, _, _, _, _, _, _, _, _, _, _, _, _, _, _, _, _], _, _, _, _, _, _, _, _, _]) zc_X10 lk_X10_59 dX10_readsChord_92 rfl (by decide) rfl rfl (Nat.le_of_ble_eq_true rfl) True.intro rfl ?_
    refine wa_aload_n (pc' := 96) dX10_readsChord_95 rfl rfl rfl ?_
    refine wa_iload_n (pc' := 97) dX10_readsChord_96 rfl rfl rfl ?_
    refine wa_putfield (pc' := 100) (j := 14) (w' := [zO _ [_, _, _, _, _, _, _, _, _, _, _, _, _, _, _, _, _, _, _, _, _, _, _, _], _, _, _, _, _, _, _, _, _]) zc_X10 lk_X10_87 dX10_readsChord_97 rfl (by decide) rfl rfl (Nat.le_of_ble_eq_true rfl) True.intro rfl ?_
    refine wa_iload (pc' := 102) dX10_readsChord_100 rfl rfl ?_
    refine wa_if_ne (tgt := 107) (pc' := 105) dX10_readsChord_102 (by decide) rfl (by omega) (fun c102 => ?_) (fun c102 => ?_)
    · refine wa_aload_n (pc' := 108) dX10_readsChord_107 rfl rfl rfl ?_
      refine wa_aload_n (pc' := 109) dX10_readsChord_108 rfl rfl rfl ?_
      refine wa_getfield (pc' := 112) (j := 11) zc_X10 lk_X10_59 dX10_readsChord_109 rfl (by decide) rfl rfl ?_
      refine wa_rI2 (pc' := 115) (st := []) (k_X10_sign t _ _ _ _ _ _ _ _ _ _ _ _ _ _ _ _ _ _ _ _ _ _ _ ht hx (by omega)) ok_X10_sign lm_X10_62 dX10_readsChord_112 rfl (wM_ok _ _ _ _ _ _ _ _ _ _ _ _ _ _ _ _ _ _ _ _ _ _) rfl rfl (Nat.le_of_ble_eq_true rfl) rfl rfl rfl rfl (by decide) (Nat.le_of_ble_eq_true rfl) rfl (by decide) (by decide) rfl rfl ?_
      refine wa_bipush (pc' := 117) dX10_readsChord_115 rfl rfl ?_
      refine wa_icmp_ne (tgt := 147) (pc' := 120) dX10_readsChord_117 (by decide) rfl (by have := n4 ((ntR (gT t) (ap)).2 + (mqR (gT t) (ntR (gT t) (ap)).2 10 0 0 0 0 wh).1); omega) (by omega) (fun c117 => ?_) (fun c117 => ?_)
      · refine wa_aload_n (pc' := 148) dX10_readsChord_147 rfl rfl rfl ?_
        refine wa_aload_n (pc' := 149) dX10_readsChord_148 rfl rfl rfl ?_
        refine wa_getfield (pc' := 152) (j := 11) zc_X10 lk_X10_59 dX10_readsChord_149 rfl (by decide) rfl rfl ?_
        refine wa_rI2 (pc' := 155) (st := []) (k_X10_sign t _ _ _ _ _ _ _ _ _ _ _ _ _ _ _ _ _ _ _ _ _ _ _ ht hx (by omega)) ok_X10_sign lm_X10_62 dX10_readsChord_152 rfl (wM_ok _ _ _ _ _ _ _ _ _ _ _ _ _ _ _ _ _ _ _ _ _ _) rfl rfl (Nat.le_of_ble_eq_true rfl) rfl rfl rfl rfl (by decide) (Nat.le_of_ble_eq_true rfl) rfl (by decide) (by decide) rfl rfl ?_
        refine wa_iload_n (pc' := 156) dX10_readsChord_155 rfl rfl rfl ?_
        refine wa_icmp_ne (tgt := 163) (pc' := 159) dX10_readsChord_156 (by decide) rfl (zin126 (n4 _)) he (fun c156 => ?_) (fun c156 => ?_)
        · refine wa_iconst (pc' := 164) dX10_readsChord_163 rfl ?_
          refine wa_zret dX10_readsChord_164 rfl (by decide) (by decide) (by omega) ?_
          first | (exfalso; omega) | exact zD_i (by rw [mcR, if_pos (by omega)] <;> rfl) (by rw [mcR, if_pos (by omega)] <;> rfl) | exact zD_i (by rw [mcR, if_neg (by omega), if_pos (by omega)] <;> rfl) (by rw [mcR, if_neg (by omega), if_pos (by omega)] <;> rfl) | exact zD_i (by rw [mcR, if_neg (by omega), if_neg (by omega), if_pos (by omega), if_pos (by omega)] <;> rfl) (by rw [mcR, if_neg (by omega), if_neg (by omega), if_pos (by omega), if_pos (by omega)] <;> rfl) | exact zD_i (by rw [mcR, if_neg (by omega), if_neg (by omega), if_pos (by omega), if_neg (by omega), if_pos (by omega)] <;> rfl) (by rw [mcR, if_neg (by omega), if_neg (by omega), if_pos (by omega), if_neg (by omega), if_pos (by omega)] <;> rfl) | exact zD_i (by rw [mcR, if_neg (by omega), if_neg (by omega), if_pos (by omega), if_neg (by omega), if_neg (by omega)] <;> rfl) (by rw [mcR, if_neg (by omega), if_neg (by omega), if_pos (by omega), if_neg (by omega), if_neg (by omega)] <;> rfl) | exact zD_i (by rw [mcR, if_neg (by omega), if_neg (by omega), if_neg (by omega), if_pos (by omega)] <;> rfl) (by rw [mcR, if_neg (by omega), if_neg (by omega), if_neg (by omega), if_pos (by omega)] <;> rfl) | exact zD_i (by rw [mcR, if_neg (by omega), if_neg (by omega), if_neg (by omega), if_neg (by omega)] <;> rfl) (by rw [mcR, if_neg (by omega), if_neg (by omega), if_neg (by omega), if_neg (by omega)] <;> rfl)
        · refine wa_iconst (pc' := 160) dX10_readsChord_159 rfl ?_
          refine wa_goto (pc' := 164) dX10_readsChord_160 (by decide) ?_
          refine wa_zret dX10_readsChord_164 rfl (by decide) (by decide) (by omega) ?_
          first | (exfalso; omega) | exact zD_i (by rw [mcR, if_pos (by omega)] <;> rfl) (by rw [mcR, if_pos (by omega)] <;> rfl) | exact zD_i (by rw [mcR, if_neg (by omega), if_pos (by omega)] <;> rfl) (by rw [mcR, if_neg (by omega), if_pos (by omega)] <;> rfl) | exact zD_i (by rw [mcR, if_neg (by omega), if_neg (by omega), if_pos (by omega), if_pos (by omega)] <;> rfl) (by rw [mcR, if_neg (by omega), if_neg (by omega), if_pos (by omega), if_pos (by omega)] <;> rfl) | exact zD_i (by rw [mcR, if_neg (by omega), if_neg (by omega), if_pos (by omega), if_neg (by omega), if_pos (by omega)] <;> rfl) (by rw [mcR, if_neg (by omega), if_neg (by omega), if_pos (by omega), if_neg (by omega), if_pos (by omega)] <;> rfl) | exact zD_i (by rw [mcR, if_neg (by omega), if_neg (by omega), if_pos (by omega), if_neg (by omega), if_neg (by omega)] <;> rfl) (by rw [mcR, if_neg (by omega), if_neg (by omega), if_pos (by omega), if_neg (by omega), if_neg (by omega)] <;> rfl) | exact zD_i (by rw [mcR, if_neg (by omega), if_neg (by omega), if_neg (by omega), if_pos (by omega)] <;> rfl) (by rw [mcR, if_neg (by omega), if_neg (by omega), if_neg (by omega), if_pos (by omega)] <;> rfl) | exact zD_i (by rw [mcR, if_neg (by omega), if_neg (by omega), if_neg (by omega), if_neg (by omega)] <;> rfl) (by rw [mcR, if_neg (by omega), if_neg (by omega), if_neg (by omega), if_neg (by omega)] <;> rfl)
      · refine wa_aload_n (pc' := 121) dX10_readsChord_120 rfl rfl rfl ?_
        refine wa_dup (pc' := 122) dX10_readsChord_121 rfl rfl ?_
        refine wa_getfield (pc' := 125) (j := 11) zc_X10 lk_X10_59 dX10_readsChord_122 rfl (by decide) rfl rfl ?_
        refine wa_iconst (pc' := 126) dX10_readsChord_125 rfl ?_
        refine wa_iadd (pc' := 127) dX10_readsChord_126 rfl ?_
        refine wa_putfield (pc' := 130) (j := 11) (w' := [zO _ [_, _, _, _, _, _, _, _, _, _, _, _, _, _, _, _, _, _, _, _, _, _, _, _], _, _, _, _, _, _, _, _, _]) zc_X10 lk_X10_59 dX10_readsChord_127 rfl (by decide) rfl rfl (Nat.le_of_ble_eq_true rfl) True.intro rfl ?_
        refine wa_aload_n (pc' := 131) dX10_readsChord_130 rfl rfl rfl ?_
        refine wa_iD2 (pc' := 134) (st := []) (k_X10_readsNote t _ _ _ _ _ _ _ _ _ _ _ _ _ _ _ _ _ _ _ _ _ _ ht hx (by omega)) ok_X10_readsNote lm_X10_74 dX10_readsChord_131 rfl (wM_ok _ _ _ _ _ _ _ _ _ _ _ _ _ _ _ _ _ _ _ _ _ _) (Eq.refl 10) (wM_ok _ _ _ _ _ _ _ _ _ _ _ _ _ _ _ _ _ _ _ _ _ _) rfl rfl (Nat.le_of_ble_eq_true rfl) rfl rfl rfl rfl (by decide) (Nat.le_of_ble_eq_true rfl) rfl (by decide) (by decide) rfl rfl ?_
        show Wa _ _ _ _ _ _ _ _ [_] _ _ _
        refine wa_if_ne (tgt := 139) (pc' := 137) dX10_readsChord_134 (by decide) rfl (by split <;> omega) (fun c134 => ?_) (fun c134 => ?_)
        · have h134 := itn1 c134
          refine wa_aload_n (pc' := 140) dX10_readsChord_139 rfl rfl rfl ?_
          refine wa_aload_n (pc' := 141) dX10_readsChord_140 rfl rfl rfl ?_
          refine wa_getfield (pc' := 144) (j := 12) zc_X10 lk_X10_68 dX10_readsChord_141 rfl (by decide) rfl rfl ?_
          refine wa_putfield (pc' := 147) (j := 15) (w' := [zO _ [_, _, _, _, _, _, _, _, _, _, _, _, _, _, _, _, _, _, _, _, _, _, _, _], _, _, _, _, _, _, _, _, _]) zc_X10 lk_X10_81 dX10_readsChord_144 rfl (by decide) rfl rfl (Nat.le_of_ble_eq_true rfl) True.intro rfl ?_
          refine wa_aload_n (pc' := 148) dX10_readsChord_147 rfl rfl rfl ?_
          refine wa_aload_n (pc' := 149) dX10_readsChord_148 rfl rfl rfl ?_
          refine wa_getfield (pc' := 152) (j := 11) zc_X10 lk_X10_59 dX10_readsChord_149 rfl (by decide) rfl rfl ?_
          refine wa_rI2 (pc' := 155) (st := []) (k_X10_sign t _ _ _ _ _ _ _ _ _ _ _ _ _ _ _ _ _ _ _ _ _ _ _ ht hx (by omega)) ok_X10_sign lm_X10_62 dX10_readsChord_152 rfl (wM_ok _ _ _ _ _ _ _ _ _ _ _ _ _ _ _ _ _ _ _ _ _ _) rfl rfl (Nat.le_of_ble_eq_true rfl) rfl rfl rfl rfl (by decide) (Nat.le_of_ble_eq_true rfl) rfl (by decide) (by decide) rfl rfl ?_
          refine wa_iload_n (pc' := 156) dX10_readsChord_155 rfl rfl rfl ?_
          refine wa_icmp_ne (tgt := 163) (pc' := 159) dX10_readsChord_156 (by decide) rfl (zin126 (n4 _)) he (fun c156 => ?_) (fun c156 => ?_)
          · refine wa_iconst (pc' := 164) dX10_readsChord_163 rfl ?_
            refine wa_zret dX10_readsChord_164 rfl (by decide) (by decide) (by omega) ?_
            first | (exfalso; omega) | exact zD_i (by rw [mcR, if_pos (by omega)] <;> rfl) (by rw [mcR, if_pos (by omega)] <;> rfl) | exact zD_i (by rw [mcR, if_neg (by omega), if_pos (by omega)] <;> rfl) (by rw [mcR, if_neg (by omega), if_pos (by omega)] <;> rfl) | exact zD_i (by rw [mcR, if_neg (by omega), if_neg (by omega), if_pos (by omega), if_pos (by omega)] <;> rfl) (by rw [mcR, if_neg (by omega), if_neg (by omega), if_pos (by omega), if_pos (by omega)] <;> rfl) | exact zD_i (by rw [mcR, if_neg (by omega), if_neg (by omega), if_pos (by omega), if_neg (by omega), if_pos (by omega)] <;> rfl) (by rw [mcR, if_neg (by omega), if_neg (by omega), if_pos (by omega), if_neg (by omega), if_pos (by omega)] <;> rfl) | exact zD_i (by rw [mcR, if_neg (by omega), if_neg (by omega), if_pos (by omega), if_neg (by omega), if_neg (by omega)] <;> rfl) (by rw [mcR, if_neg (by omega), if_neg (by omega), if_pos (by omega), if_neg (by omega), if_neg (by omega)] <;> rfl) | exact zD_i (by rw [mcR, if_neg (by omega), if_neg (by omega), if_neg (by omega), if_pos (by omega)] <;> rfl) (by rw [mcR, if_neg (by omega), if_neg (by omega), if_neg (by omega), if_pos (by omega)] <;> rfl) | exact zD_i (by rw [mcR, if_neg (by omega), if_neg (by omega), if_neg (by omega), if_neg (by omega)] <;> rfl) (by rw [mcR, if_neg (by omega), if_neg (by omega), if_neg (by omega), if_neg (by omega)] <;> rfl)
          · refine wa_iconst (pc' := 160) dX10_readsChord_159 rfl ?_
            refine wa_goto (pc' := 164) dX10_readsChord_160 (by decide) ?_
            refine wa_zret dX10_readsChord_164 rfl (by decide) (by decide) (by omega) ?_
            first | (exfalso; omega) | exact zD_i (by rw [mcR, if_pos (by omega)] <;> rfl) (by rw [mcR, if_pos (by omega)] <;> rfl) | exact zD_i (by rw [mcR, if_neg (by omega), if_pos (by omega)] <;> rfl) (by rw [mcR, if_neg (by omega), if_pos (by omega)] <;> rfl) | exact zD_i (by rw [mcR, if_neg (by omega), if_neg (by omega), if_pos (by omega), if_pos (by omega)] <;> rfl) (by rw [mcR, if_neg (by omega), if_neg (by omega), if_pos (by omega), if_pos (by omega)] <;> rfl) | exact zD_i (by rw [mcR, if_neg (by omega), if_neg (by omega), if_pos (by omega), if_neg (by omega), if_pos (by omega)] <;> rfl) (by rw [mcR, if_neg (by omega), if_neg (by omega), if_pos (by omega), if_neg (by omega), if_pos (by omega)] <;> rfl) | exact zD_i (by rw [mcR, if_neg (by omega), if_neg (by omega), if_pos (by omega), if_neg (by omega), if_neg (by omega)] <;> rfl) (by rw [mcR, if_neg (by omega), if_neg (by omega), if_pos (by omega), if_neg (by omega), if_neg (by omega)] <;> rfl) | exact zD_i (by rw [mcR, if_neg (by omega), if_neg (by omega), if_neg (by omega), if_pos (by omega)] <;> rfl) (by rw [mcR, if_neg (by omega), if_neg (by omega), if_neg (by omega), if_pos (by omega)] <;> rfl) | exact zD_i (by rw [mcR, if_neg (by omega), if_neg (by omega), if_neg (by omega), if_neg (by omega)] <;> rfl) (by rw [mcR, if_neg (by omega), if_neg (by omega), if_neg (by omega), if_neg (by omega)] <;> rfl)
        · have h134 := itn0 c134
          refine wa_iconst (pc' := 138) dX10_readsChord_137 rfl ?_
          refine wa_zret dX10_readsChord_138 rfl (by decide) (by decide) (by omega) ?_
          first | (exfalso; omega) | exact zD_i (by rw [mcR, if_pos (by omega)] <;> rfl) (by rw [mcR, if_pos (by omega)] <;> rfl) | exact zD_i (by rw [mcR, if_neg (by omega), if_pos (by omega)] <;> rfl) (by rw [mcR, if_neg (by omega), if_pos (by omega)] <;> rfl) | exact zD_i (by rw [mcR, if_neg (by omega), if_neg (by omega), if_pos (by omega), if_pos (by omega)] <;> rfl) (by rw [mcR, if_neg (by omega), if_neg (by omega), if_pos (by omega), if_pos (by omega)] <;> rfl) | exact zD_i (by rw [mcR, if_neg (by omega), if_neg (by omega), if_pos (by omega), if_neg (by omega), if_pos (by omega)] <;> rfl) (by rw [mcR, if_neg (by omega), if_neg (by omega), if_pos (by omega), if_neg (by omega), if_pos (by omega)] <;> rfl) | exact zD_i (by rw [mcR, if_neg (by omega), if_neg (by omega), if_pos (by omega), if_neg (by omega), if_neg (by omega)] <;> rfl) (by rw [mcR, if_neg (by omega), if_neg (by omega), if_pos (by omega), if_neg (by omega), if_neg (by omega)] <;> rfl) | exact zD_i (by rw [mcR, if_neg (by omega), if_neg (by omega), if_neg (by omega), if_pos (by omega)] <;> rfl) (by rw [mcR, if_neg (by omega), if_neg (by omega), if_neg (by omega), if_pos (by omega)] <;> rfl) | exact zD_i (by rw [mcR, if_neg (by omega), if_neg (by omega), if_neg (by omega), if_neg (by omega)] <;> rfl) (by rw [mcR, if_neg (by omega), if_neg (by omega), if_neg (by omega), if_neg (by omega)] <;> rfl)
    · refine wa_iconst (pc' := 106) dX10_readsChord_105 rfl ?_
      refine wa_zret dX10_readsChord_106 rfl (by decide) (by decide) (by omega) ?_
      first | (exfalso; omega) | exact zD_i (by rw [mcR, if_pos (by omega)] <;> rfl) (by rw [mcR, if_pos (by omega)] <;> rfl) | exact zD_i (by rw [mcR, if_neg (by omega), if_pos (by omega)] <;> rfl) (by rw [mcR, if_neg (by omega), if_pos (by omega)] <;> rfl) | exact zD_i (by rw [mcR, if_neg (by omega), if_neg (by omega), if_pos (by omega), if_pos (by omega)] <;> rfl) (by rw [mcR, if_neg (by omega), if_neg (by omega), if_pos (by omega), if_pos (by omega)] <;> rfl) | exact zD_i (by rw [mcR, if_neg (by omega), if_neg (by omega), if_pos (by omega), if_neg (by omega), if_pos (by omega)] <;> rfl) (by rw [mcR, if_neg (by omega), if_neg (by omega), if_pos (by omega), if_neg (by omega), if_pos (by omega)] <;> rfl) | exact zD_i (by rw [mcR, if_neg (by omega), if_neg (by omega), if_pos (by omega), if_neg (by omega), if_neg (by omega)] <;> rfl) (by rw [mcR, if_neg (by omega), if_neg (by omega), if_pos (by omega), if_neg (by omega), if_neg (by omega)] <;> rfl) | exact zD_i (by rw [mcR, if_neg (by omega), if_neg (by omega), if_neg (by omega), if_pos (by omega)] <;> rfl) (by rw [mcR, if_neg (by omega), if_neg (by omega), if_neg (by omega), if_pos (by omega)] <;> rfl) | exact zD_i (by rw [mcR, if_neg (by omega), if_neg (by omega), if_neg (by omega), if_neg (by omega)] <;> rfl) (by rw [mcR, if_neg (by omega), if_neg (by omega), if_neg (by omega), if_neg (by omega)] <;> rfl)
  · have h4 := itn0 c4
    refine wa_iconst (pc' := 8) dX10_readsChord_7 rfl ?_
    refine wa_zret dX10_readsChord_8 rfl (by decide) (by decide) (by omega) ?_
    first | (exfalso; omega) | exact zD_i (by rw [mcR, if_pos (by omega)] <;> rfl) (by rw [mcR, if_pos (by omega)] <;> rfl) | exact zD_i (by rw [mcR, if_neg (by omega), if_pos (by omega)] <;> rfl) (by rw [mcR, if_neg (by omega), if_pos (by omega)] <;> rfl) | exact zD_i (by rw [mcR, if_neg (by omega), if_neg (by omega), if_pos (by omega), if_pos (by omega)] <;> rfl) (by rw [mcR, if_neg (by omega), if_neg (by omega), if_pos (by omega), if_pos (by omega)] <;> rfl) | exact zD_i (by rw [mcR, if_neg (by omega), if_neg (by omega), if_pos (by omega), if_neg (by omega), if_pos (by omega)] <;> rfl) (by rw [mcR, if_neg (by omega), if_neg (by omega), if_pos (by omega), if_neg (by omega), if_pos (by omega)] <;> rfl) | exact zD_i (by rw [mcR, if_neg (by omega), if_neg (by omega), if_pos (by omega), if_neg (by omega), if_neg (by omega)] <;> rfl) (by rw [mcR, if_neg (by omega), if_neg (by omega), if_pos (by omega), if_neg (by omega), if_neg (by omega)] <;> rfl) | exact zD_i (by rw [mcR, if_neg (by omega), if_neg (by omega), if_neg (by omega), if_pos (by omega)] <;> rfl) (by rw [mcR, if_neg (by omega), if_neg (by omega), if_neg (by omega), if_pos (by omega)] <;> rfl) | exact zD_i (by rw [mcR, if_neg (by omega), if_neg (by omega), if_neg (by omega), if_neg (by omega)] <;> rfl) (by rw [mcR, if_neg (by omega), if_neg (by omega), if_neg (by omega), if_neg (by omega)] <;> rfl)

set_option maxRecDepth 10000 in
set_option maxHeartbeats 1000000 in
theorem k_X10_isText (t : zRw) (v pa : Int → Int) (sn : Int) (tx : Int → Int) (ty si fl wi th ap nt rr rq rb wh : Int) (md na : Int → Int) (nd : Int) (up lo : Int → Int) (us lw : Int)  (ht : okT t) (hx : Tr t tx ty)  : zMet q_X10_isText 3 0 0 [zR 0] (wM v pa sn tx ty si fl wi th ap nt rr rq rb wh md na nd up lo us lw) (zD (some (zI ((mcR (gT t) (-1) 0 rr rq rb wh).1))) (wM v pa sn tx ty si fl wi th ((mcR (gT t) (-1) 0 rr rq rb wh).2.1) ((mcR (gT t) (-1) 0 rr rq rb wh).2.2.1) ((mcR (gT t) (-1) 0 rr rq rb wh).2.2.2.1) ((mcR (gT t) (-1) 0 rr rq rb wh).2.2.2.2.1) ((mcR (gT t) (-1) 0 rr rq rb wh).2.2.2.2.2.1) ((mcR (gT t) (-1) 0 rr rq rb wh).2.2.2.2.2.2) md na nd up lo us lw)) := by
  refine z_introF (ls := [(0, _)]) (by decide +kernel) rfl (fun _ _ => rfl) (fun _ _ => Nat.le_of_ble_eq_true rfl) ?_
  obtain ⟨x0, x1⟩ := id hx
  obtain ⟨t1, t2, t3⟩ := id ht
  refine wa_aload_n (pc' := 1) dX10_isText_0 rfl rfl rfl ?_
  refine wa_iconst (pc' := 2) dX10_isText_1 rfl ?_
  refine wa_putfield (pc' := 5) (j := 11) (w' := [zO _ [_, _, _, _, _, _, _, _, _, _, _, _, _, _, _, _, _, _, _, _, _, _, _, _], _, _, _, _, _, _, _, _, _]) zc_X10 lk_X10_59 dX10_isText_2 rfl (by decide) rfl rfl (Nat.le_of_ble_eq_true rfl) True.intro rfl ?_
  refine wa_aload_n (pc' := 6) dX10_isText_5 rfl rfl rfl ?_
  refine wa_iconst (pc' := 7) dX10_isText_6 rfl ?_
  refine wa_iD2 (pc' := 10) (st := []) (k_X10_readsChord t _ _ _ _ _ _ _ _ _ _ _ _ _ _ _ _ _ _ _ _ _ _ (-1) ht hx (by omega) (by omega)) ok_X10_readsChord lm_X10_90 dX10_isText_7 rfl (wM_ok _ _ _ _ _ _ _ _ _ _ _ _ _ _ _ _ _ _ _ _ _ _) (Eq.refl 10) (wM_ok _ _ _ _ _ _ _ _ _ _ _ _ _ _ _ _ _ _ _ _ _ _) rfl rfl (Nat.le_of_ble_eq_true rfl) rfl rfl rfl rfl (by decide) (Nat.le_of_ble_eq_true rfl) rfl (by decide) (by decide) rfl rfl ?_
  show Wa _ _ _ _ _ _ _ _ [_] _ _ _
  refine wa_zret dX10_isText_10 rfl (by decide) (by decide) (mcR_01 _ _ _ _ _ _ _) ?_
  first | exact zD_i rfl rfl | exact zD_i (by rw [if_pos (by omega)]) rfl | exact zD_i (by rw [if_neg (by omega)]) rfl

