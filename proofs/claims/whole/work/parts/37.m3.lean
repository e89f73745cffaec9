/-! the reference: names -/
theorem mLet_e : ∀ j : Nat, j < 7 → mLet j = (zBytes.getD 10 []).getD j 0 := by decide +kernel
def nmL (q : Int) : Nat → Int → Int → List Int
  | 0, _, _ => []
  | m + 1, k, n => if mQua k = 59 then nmL q m (k + 1) (n + 1) else if n = q then mQua k :: nmL q m (k + 1) n else nmL q m (k + 1) n
theorem nmL_e : ∀ q : Nat, q < 10 → nmL ((q : Nat) : Int) 30 0 0 = zBytes.getD q [] := by decide +kernel
set_option maxRecDepth 10000 in
set_option maxHeartbeats 1000000 in
theorem k_X10_tells (v pa : Int → Int) (sn : Int) (tx : Int → Int) (ty si fl wi th ap nt rr rq rb wh : Int) (md na : Int → Int) (nd : Int) (up lo : Int → Int) (us lw : Int) (c : Int) (hn : 0 ≤ nd ∧ nd < 20) : zMet q_X10_tells 0 0 0 [zR 0, zI c] (wM v pa sn tx ty si fl wi th ap nt rr rq rb wh md na nd up lo us lw) (zD (none) (wM v pa sn tx ty si fl wi th ap nt rr rq rb wh md ((rA (nd, na) c).2) ((rA (nd, na) c).1) up lo us lw)) := by
  refine z_introF (ls := [(0, _), (1, _)]) (by decide +kernel) rfl (fun _ _ => rfl) (fun _ _ => Nat.le_of_ble_eq_true rfl) ?_
  refine wa_aload_n (pc' := 1) dX10_tells_0 rfl rfl rfl ?_
  refine wa_getfield (pc' := 4) (j := 18) zc_X10 lk_X10_37 dX10_tells_1 rfl (by decide) rfl rfl ?_
  refine wa_aload_n (pc' := 5) dX10_tells_4 rfl rfl rfl ?_
  refine wa_getfield (pc' := 8) (j := 19) zc_X10 lk_X10_133 dX10_tells_5 rfl (by decide) rfl rfl ?_
  refine wa_iload_n (pc' := 9) dX10_tells_8 rfl rfl rfl ?_
  refine wa_iastore (pc' := 10) (w' := [_, _, _, _, _, _, _, zA _ _ _, _, _]) dX10_tells_9 rfl rfl (by omega) (by omega) (by decide) rfl ?_
  refine wa_aload_n (pc' := 11) dX10_tells_10 rfl rfl rfl ?_
  refine wa_dup (pc' := 12) dX10_tells_11 rfl rfl ?_
  refine wa_getfield (pc' := 15) (j := 19) zc_X10 lk_X10_133 dX10_tells_12 rfl (by decide) rfl rfl ?_
  refine wa_iconst (pc' := 16) dX10_tells_15 rfl ?_
  refine wa_iadd (pc' := 17) dX10_tells_16 rfl ?_
  refine wa_putfield (pc' := 20) (j := 19) (w' := [zO _ [_, _, _, _, _, _, _, _, _, _, _, _, _, _, _, _, _, _, _, _, _, _, _, _], _, _, _, _, _, _, _, _, _]) zc_X10 lk_X10_133 dX10_tells_17 rfl (by decide) rfl rfl (Nat.le_of_ble_eq_true rfl) True.intro rfl ?_
  refine wa_vret dX10_tells_20 rfl (by decide) (by decide) ?_
  first | exact zD_i rfl rfl | exact zD_i (by rw [if_pos (by omega)]) rfl | exact zD_i (by rw [if_neg (by omega)]) rfl

set_option maxRecDepth 10000 in
set_option maxHeartbeats 1000000 in
theorem l_tells3 (v pa : Int → Int) (sn : Int) (tx : Int → Int) (ty si fl wi th ap nt rr rq rb wh : Int) (md : Int → Int) (up lo : Int → Int) (us lw : Int) (p s l : Int) (hs : -10 ≤ s ∧ s ≤ 10) (R : zRw) : ∀ (m : Nat) (r : zRw) (k : Int), 0 ≤ r.1 ∧ 0 ≤ k → k + m = zabs s → r.1 + m ≤ 20 → rL r (List.replicate m (if 0 < s then 35 else 98)) = R → Wa q_X10_tellsNote 1 0 0 10 (zD none (wM v pa sn tx ty si fl wi th ap nt rr rq rb wh md R.2 R.1 up lo us lw)) 47 [(4, zI k), (3, zI l), (2, zI s), (0, zR 0), (1, zI p)] [] (wM v pa sn tx ty si fl wi th ap nt rr rq rb wh md r.2 r.1 up lo us lw) 0 0 := by
  have hZ := zabs_0 s
  intro m
  induction m with
  | zero =>
    intro r k hr hm hn hR
    subst hR
    refine wa_iload (pc' := 49) dX10_tellsNote_47 rfl rfl ?_
    refine wa_iload_n (pc' := 50) dX10_tellsNote_49 rfl rfl rfl ?_
    refine wa_icmp_lt (tgt := 60) (pc' := 53) dX10_tellsNote_50 (by decide) rfl (by omega) (by omega) (fun c50 => ?_) (fun c50 => ?_)
    · exact absurd c50 (by omega)
    · refine wa_iload (pc' := 55) dX10_tellsNote_53 rfl rfl ?_
      refine wa_iload_n (pc' := 56) dX10_tellsNote_55 rfl rfl rfl ?_
      refine wa_ineg (pc' := 57) dX10_tellsNote_56 rfl ?_
      refine wa_icmp_ge (tgt := 81) (pc' := 60) dX10_tellsNote_57 (by decide) rfl (by omega) (by omega) (fun c57 => ?_) (fun c57 => ?_)
      · refine wa_vret dX10_tellsNote_81 rfl (by decide) (by decide) ?_
        exact zD_i rfl rfl
      · exact absurd c57 (by omega)
  | succ m ih =>
    intro r k hr hm hn hR
    have ih9 := ih (rA r (if 0 < s then 35 else 98)) (k + 1) ⟨by show 0 ≤ r.1 + 1; omega, by omega⟩ (by omega) (by show r.1 + 1 + _ ≤ 20; omega) (by rw [← hR]; rfl)
    refine wa_iload (pc' := 49) dX10_tellsNote_47 rfl rfl ?_
    refine wa_iload_n (pc' := 50) dX10_tellsNote_49 rfl rfl rfl ?_
    refine wa_icmp_lt (tgt := 60) (pc' := 53) dX10_tellsNote_50 (by decide) rfl (by omega) (by omega) (fun c50 => ?_) (fun c50 => ?_)
    · refine wa_aload_n (pc' := 61) dX10_tellsNote_60 rfl rfl rfl ?_
      refine wa_join (J := 72) (P := fun x => x = if 0 < s then 35 else 98) (fun x72 e72 => ?_) (fun K72 => ?_)
      · subst e72
        refine wa_iD2 (pc' := 75) (st := []) (k_X10_tells _ _ _ _ _ _ _ _ _ _ _ _ _ _ _ _ _ _ _ _ _ _ _ (by omega)) ok_X10_tells lm_X10_136 dX10_tellsNote_72 rfl (wM_ok _ _ _ _ _ _ _ _ _ _ _ _ _ _ _ _ _ _ _ _ _ _) (Eq.refl 10) (wM_ok _ _ _ _ _ _ _ _ _ _ _ _ _ _ _ _ _ _ _ _ _ _) rfl rfl (Nat.le_of_ble_eq_true rfl) rfl rfl rfl rfl (by decide) (Nat.le_of_ble_eq_true rfl) rfl (by decide) (by decide) rfl rfl ?_
        show Wa _ _ _ _ _ _ _ _ [] _ _ _
        refine wa_iinc (pc' := 78) (ls' := [(4, _), (3, _), (2, _), (0, _), (1, _)]) dX10_tellsNote_75 rfl rfl (by decide) rfl ?_
        refine wa_goto (pc' := 47) dX10_tellsNote_78 (by decide) ?_
        exact ih9
      · refine wa_iload_n (pc' := 62) dX10_tellsNote_61 rfl rfl rfl ?_
        refine wa_if_le (tgt := 70) (pc' := 65) dX10_tellsNote_62 (by decide) rfl (by omega) (fun c62 => ?_) (fun c62 => ?_)
        · refine wa_bipush (pc' := 72) dX10_tellsNote_70 rfl rfl ?_
          exact K72 _ (by show _ = _; first | (exfalso; omega) | rw [if_pos (by omega)] | rw [if_neg (by omega)])
        · refine wa_bipush (pc' := 67) dX10_tellsNote_65 rfl rfl ?_
          refine wa_goto (pc' := 72) dX10_tellsNote_67 (by decide) ?_
          exact K72 _ (by show _ = _; first | (exfalso; omega) | rw [if_pos (by omega)] | rw [if_neg (by omega)])
    · refine wa_iload (pc' := 55) dX10_tellsNote_53 rfl rfl ?_
      refine wa_iload_n (pc' := 56) dX10_tellsNote_55 rfl rfl rfl ?_
      refine wa_ineg (pc' := 57) dX10_tellsNote_56 rfl ?_
      refine wa_icmp_ge (tgt := 81) (pc' := 60) dX10_tellsNote_57 (by decide) rfl (by omega) (by omega) (fun c57 => ?_) (fun c57 => ?_)
      · exact absurd c57 (by omega)
      · refine wa_aload_n (pc' := 61) dX10_tellsNote_60 rfl rfl rfl ?_
        refine wa_join (J := 72) (P := fun x => x = if 0 < s then 35 else 98) (fun x72 e72 => ?_) (fun K72 => ?_)
        · subst e72
          refine wa_iD2 (pc' := 75) (st := []) (k_X10_tells _ _ _ _ _ _ _ _ _ _ _ _ _ _ _ _ _ _ _ _ _ _ _ (by omega)) ok_X10_tells lm_X10_136 dX10_tellsNote_72 rfl (wM_ok _ _ _ _ _ _ _ _ _ _ _ _ _ _ _ _ _ _ _ _ _ _) (Eq.refl 10) (wM_ok _ _ _ _ _ _ _ _ _ _ _ _ _ _ _ _ _ _ _ _ _ _) rfl rfl (Nat.le_of_ble_eq_true rfl) rfl rfl rfl rfl (by decide) (Nat.le_of_ble_eq_true rfl) rfl (by decide) (by decide) rfl rfl ?_
          show Wa _ _ _ _ _ _ _ _ [] _ _ _
          refine wa_iinc (pc' := 78) (ls' := [(4, _), (3, _), (2, _), (0, _), (1, _)]) dX10_tellsNote_75 rfl rfl (by decide) rfl ?_
          refine wa_goto (pc' := 47) dX10_tellsNote_78 (by decide) ?_
          exact ih9
        · refine wa_iload_n (pc' := 62) dX10_tellsNote_61 rfl rfl rfl ?_
          refine wa_if_le (tgt := 70) (pc' := 65) dX10_tellsNote_62 (by decide) rfl (by omega) (fun c62 => ?_) (fun c62 => ?_)
          · refine wa_bipush (pc' := 72) dX10_tellsNote_70 rfl rfl ?_
            exact K72 _ (by show _ = _; first | (exfalso; omega) | rw [if_pos (by omega)] | rw [if_neg (by omega)])
          · refine wa_bipush (pc' := 67) dX10_tellsNote_65 rfl rfl ?_
            refine wa_goto (pc' := 72) dX10_tellsNote_67 (by decide) ?_
            exact K72 _ (by show _ = _; first | (exfalso; omega) | rw [if_pos (by omega)] | rw [if_neg (by omega)])

set_option maxRecDepth 10000 in
set_option maxHeartbeats 1000000 in
theorem l_tells2 (v pa : Int → Int) (sn : Int) (tx : Int → Int) (ty si fl wi th ap nt rr rq rb wh : Int) (md : Int → Int) (up lo : Int → Int) (us lw : Int) (p : Int) (r : zRw) (hp : -60 ≤ p ∧ p ≤ 60) (hr : 0 ≤ r.1 ∧ r.1 + (noteL p).length ≤ 20) : ∀ (m : Nat) (l s : Int), p = l + 7 * s → (-1 ≤ l ∧ l ≤ 100) → l ≤ 5 + 7 * m → Wa q_X10_tellsNote 1 0 0 10 (zD none (wM v pa sn tx ty si fl wi th ap nt rr rq rb wh md ((rL r (noteL p)).2) ((rL r (noteL p)).1) up lo us lw)) 18 [(3, zI l), (2, zI s), (0, zR 0), (1, zI p)] [] (wM v pa sn tx ty si fl wi th ap nt rr rq rb wh md r.2 r.1 up lo us lw) 0 0 := by
  have hln : (noteL p).length = 1 + (zabs (acc p)).toNat := by simp [noteL]; omega
  have hac : acc p = (p - -1) / 7 := rfl
  have hZ := zabs_0 (acc p)
  intro m
  induction m with
  | zero =>
    intro l s h1 h2 h3
    have h4 : s = acc p := by omega
    have h5 : l + 1 = (((p - -1) % 7).toNat : Nat) := by omega
    have e5 := mLet_e ((p - -1) % 7).toNat (by omega)
    rw [← h5] at e5
    have e6 := mLet_b (l + 1)
    subst h4
    refine wa_iload_n (pc' := 19) dX10_tellsNote_18 rfl rfl rfl ?_
    refine wa_iconst (pc' := 20) dX10_tellsNote_19 rfl ?_
    refine wa_icmp_le (tgt := 32) (pc' := 23) dX10_tellsNote_20 (by decide) rfl (by omega) (by omega) (fun c20 => ?_) (fun c20 => ?_)
    · refine wa_aload_n (pc' := 33) dX10_tellsNote_32 rfl rfl rfl ?_
      refine wa_aload_n (pc' := 34) dX10_tellsNote_33 rfl rfl rfl ?_
      refine wa_getfield (pc' := 37) (j := 9) zc_X10 lk_X10_27 dX10_tellsNote_34 rfl (by decide) rfl rfl ?_
      refine wa_iload_n (pc' := 38) dX10_tellsNote_37 rfl rfl rfl ?_
      refine wa_iconst (pc' := 39) dX10_tellsNote_38 rfl ?_
      refine wa_iadd (pc' := 40) dX10_tellsNote_39 rfl ?_
      refine wa_caload (pc' := 41) dX10_tellsNote_40 rfl rfl (by omega) (by omega) (by decide) ?_
      refine wa_iD2 (pc' := 44) (st := []) (k_X10_tells _ _ _ _ _ _ _ _ _ _ _ _ _ _ _ _ _ _ _ _ _ _ _ (by omega)) ok_X10_tells lm_X10_136 dX10_tellsNote_41 rfl (wM_ok _ _ _ _ _ _ _ _ _ _ _ _ _ _ _ _ _ _ _ _ _ _) (Eq.refl 10) (wM_ok _ _ _ _ _ _ _ _ _ _ _ _ _ _ _ _ _ _ _ _ _ _) rfl rfl (Nat.le_of_ble_eq_true rfl) rfl rfl rfl rfl (by decide) (Nat.le_of_ble_eq_true rfl) rfl (by decide) (by decide) rfl rfl ?_
      show Wa _ _ _ _ _ _ _ _ [] _ _ _
      refine wa_iconst (pc' := 45) dX10_tellsNote_44 rfl ?_
      refine wa_istore (pc' := 47) (ls' := [(4, _), (3, _), (2, _), (0, _), (1, _)]) dX10_tellsNote_45 rfl (by decide) rfl ?_
      exact l_tells3 _ _ _ _ _ _ _ _ _ _ _ _ _ _ _ _ _ _ _ _ p (acc p) l (by omega) (rL r (noteL p)) (zabs (acc p)).toNat (rA r (mLet (l + 1))) 0 ⟨by show 0 ≤ r.1 + 1; omega, by omega⟩ (by omega) (by show r.1 + 1 + _ ≤ 20; omega) (by rw [noteL, rL, rL, List.foldl_cons, ← e5])
    · exact absurd c20 (by omega)
  | succ m ih =>
    intro l s h1 h2 h3
    by_cases h9 : l ≤ 5 + 7 * m
    · exact ih l s h1 h2 h9
    refine wa_iload_n (pc' := 19) dX10_tellsNote_18 rfl rfl rfl ?_
    refine wa_iconst (pc' := 20) dX10_tellsNote_19 rfl ?_
    refine wa_icmp_le (tgt := 32) (pc' := 23) dX10_tellsNote_20 (by decide) rfl (by omega) (by omega) (fun c20 => ?_) (fun c20 => ?_)
    · exact absurd c20 (by omega)
    · refine wa_iinc (pc' := 26) (ls' := [(3, _), (2, _), (0, _), (1, _)]) dX10_tellsNote_23 rfl rfl (by decide) rfl ?_
      refine wa_iinc (pc' := 29) (ls' := [(2, _), (3, _), (0, _), (1, _)]) dX10_tellsNote_26 rfl rfl (by decide) rfl ?_
      refine wa_goto (pc' := 18) dX10_tellsNote_29 (by decide) ?_
      refine wa_sub [1, 0, 2, 3] rfl ?_
      exact ih (l + -7) (s + 1) (by omega) (by omega) (by omega)

set_option maxRecDepth 10000 in
set_option maxHeartbeats 1000000 in
theorem l_tells1 (v pa : Int → Int) (sn : Int) (tx : Int → Int) (ty si fl wi th ap nt rr rq rb wh : Int) (md : Int → Int) (up lo : Int → Int) (us lw : Int) (p : Int) (r : zRw) (hp : -60 ≤ p ∧ p ≤ 60) (hr : 0 ≤ r.1 ∧ r.1 + (noteL p).length ≤ 20) : ∀ (m : Nat) (l s : Int), p = l + 7 * s → -1 - 7 * m ≤ l → -100 ≤ l → l ≤ 60 → Wa q_X10_tellsNote 1 0 0 10 (zD none (wM v pa sn tx ty si fl wi th ap nt rr rq rb wh md ((rL r (noteL p)).2) ((rL r (noteL p)).1) up lo us lw)) 4 [(3, zI l), (2, zI s), (0, zR 0), (1, zI p)] [] (wM v pa sn tx ty si fl wi th ap nt rr rq rb wh md r.2 r.1 up lo us lw) 0 0 := by
  intro m
  induction m with
  | zero =>
    intro l s h1 h2 h3 h4
    refine wa_iload_n (pc' := 5) dX10_tellsNote_4 rfl rfl rfl ?_
    refine wa_iconst (pc' := 6) dX10_tellsNote_5 rfl ?_
    refine wa_icmp_ge (tgt := 18) (pc' := 9) dX10_tellsNote_6 (by decide) rfl (by omega) (by omega) (fun c6 => ?_) (fun c6 => ?_)
    · exact l_tells2 _ _ _ _ _ _ _ _ _ _ _ _ _ _ _ _ _ _ _ _ p r hp hr 10 l s h1 (by omega) (by omega)
    · exact absurd c6 (by omega)
  | succ m ih =>
    intro l s h1 h2 h3 h4
    refine wa_iload_n (pc' := 5) dX10_tellsNote_4 rfl rfl rfl ?_
    refine wa_iconst (pc' := 6) dX10_tellsNote_5 rfl ?_
    refine wa_icmp_ge (tgt := 18) (pc' := 9) dX10_tellsNote_6 (by decide) rfl (by omega) (by omega) (fun c6 => ?_) (fun c6 => ?_)
    · exact l_tells2 _ _ _ _ _ _ _ _ _ _ _ _ _ _ _ _ _ _ _ _ p r hp hr 10 l s h1 (by omega) (by omega)
    · refine wa_iinc (pc' := 12) (ls' := [(3, _), (2, _), (0, _), (1, _)]) dX10_tellsNote_9 rfl rfl (by decide) rfl ?_
      refine wa_iinc (pc' := 15) (ls' := [(2, _), (3, _), (0, _), (1, _)]) dX10_tellsNote_12 rfl rfl (by decide) rfl ?_
      refine wa_goto (pc' := 4) dX10_tellsNote_15 (by decide) ?_
      refine wa_sub [1, 0, 2, 3] rfl ?_
      exact ih (l + 7) (s + -1) (by omega) (by omega) (by omega) (by omega)

set_option maxRecDepth 10000 in
set_option maxHeartbeats 1000000 in
theorem k_X10_tellsNote (v pa : Int → Int) (sn : Int) (tx : Int → Int) (ty si fl wi th ap nt rr rq rb wh : Int) (md na : Int → Int) (nd : Int) (up lo : Int → Int) (us lw : Int) (p : Int) (hp : -60 ≤ p ∧ p ≤ 60) (hr : 0 ≤ nd ∧ nd + (noteL p).length ≤ 20) : zMet q_X10_tellsNote 1 0 0 [zR 0, zI p] (wM v pa sn tx ty si fl wi th ap nt rr rq rb wh md na nd up lo us lw) (zD (none) (wM v pa sn tx ty si fl wi th ap nt rr rq rb wh md ((rL (nd, na) (noteL p)).2) ((rL (nd, na) (noteL p)).1) up lo us lw)) := by
  refine z_introF (ls := [(0, _), (1, _)]) (by decide +kernel) rfl (fun _ _ => rfl) (fun _ _ => Nat.le_of_ble_eq_true rfl) ?_
  refine wa_iconst (pc' := 1) dX10_tellsNote_0 rfl ?_
  refine wa_istore_n (pc' := 2) (ls' := [(2, _), (0, _), (1, _)]) dX10_tellsNote_1 rfl rfl (by decide) rfl ?_
  refine wa_iload_n (pc' := 3) dX10_tellsNote_2 rfl rfl rfl ?_
  refine wa_istore_n (pc' := 4) (ls' := [(3, _), (2, _), (0, _), (1, _)]) dX10_tellsNote_3 rfl rfl (by decide) rfl ?_
  exact l_tells1 _ _ _ _ _ _ _ _ _ _ _ _ _ _ _ _ _ _ _ _ p (nd, na) hp hr 20 p 0 (by omega) (by omega) (by omega) (by omega)

set_option maxRecDepth 10000 in
set_option maxHeartbeats 1000000 in
theorem l_names (s : zSh) (v pa : Int → Int) (sn : Int) (tx : Int → Int) (ty si fl wi th ap nt rr rq rb wh : Int) (md : Int → Int) (up lo : Int → Int) (us lw : Int) (i : Int) (hi : 0 ≤ i ∧ i < s.2.2.2.2.1) (hs : okW s) (hv : Vr s v) (l9 : List Int) (hl9 : l9 = (nameL (s.2.2.1 (i * 5 + 2)) (s.2.2.1 (i * 5 + 3)) (s.2.2.1 (i * 5 + 4)))) : ∀ (m : Nat) (k n : Int) (r : zRw), 0 ≤ k → k + m = 30 → (0 ≤ n ∧ n ≤ k) → (0 ≤ r.1 ∧ r.1 + (nmL (s.2.2.1 (i * 5 + 3)) m k n).length + (if s.2.2.1 (i * 5 + 4) = 100 then [] else 47 :: noteL (s.2.2.1 (i * 5 + 4))).length ≤ 20) → Wa q_X10_names 2 0 0 10 (zD none (wM v pa sn tx ty si fl wi th ap nt rr rq rb wh md ((rL (rL r (nmL (s.2.2.1 (i * 5 + 3)) m k n)) (if s.2.2.1 (i * 5 + 4) = 100 then [] else 47 :: noteL (s.2.2.1 (i * 5 + 4)))).2) ((rL (rL r (nmL (s.2.2.1 (i * 5 + 3)) m k n)) (if s.2.2.1 (i * 5 + 4) = 100 then [] else 47 :: noteL (s.2.2.1 (i * 5 + 4)))).1) up lo us lw)) 24 [(3, zI k), (2, zI n), (0, zR 0), (1, zI i)] [] (wM v pa sn tx ty si fl wi th ap nt rr rq rb wh md r.2 r.1 up lo us lw) 0 0 := by
  obtain ⟨v0, v1, v2, v3, vT, vF, vL⟩ := id hv
  have hz := hs.1
  obtain ⟨z1, z2, zT1, z4, zF1, zL1⟩ := id hz.1
  have zNm := hz.2.1
  have zg := hz.2.2.1
  have zm := hz.2.2.2.1
  have zln := hz.2.2.2.2
  have vS := Vr_sg hv zm
  have zQ1 := fun i h1 h2 => (zNm i h1 h2).2.1
  have f2 := Vr_F hv (i := i) (f := 2) hi (by omega)
  have f3 := Vr_F hv (i := i) (f := 3) hi (by omega)
  have f4 := Vr_F hv (i := i) (f := 4) hi (by omega)
  obtain ⟨n1, n2, n3⟩ := zNm i hi.1 hi.2
  have n4 := nameL_n n1 n2 n3
  have n5 := noteL_n n1
  have n6 := zby_n n2
  intro m
  induction m with
  | zero =>
    intro k n r h0 hm hn hr
    have e0 : nmL (s.2.2.1 (i * 5 + 3)) 0 k n = [] := rfl
    rw [e0] at hr
    refine wa_iload_n (pc' := 25) dX10_names_24 rfl rfl rfl ?_
    refine wa_aload_n (pc' := 26) dX10_names_25 rfl rfl rfl ?_
    refine wa_getfield (pc' := 29) (j := 10) zc_X10 lk_X10_31 dX10_names_26 rfl (by decide) rfl rfl ?_
    refine wa_alen (pc' := 30) dX10_names_29 rfl rfl (by decide) ?_
    refine wa_icmp_ge (tgt := 81) (pc' := 33) dX10_names_30 (by decide) rfl (by omega) (by omega) (fun c30 => ?_) (fun c30 => ?_)
    · refine wa_aload_n (pc' := 82) dX10_names_81 rfl rfl rfl ?_
      refine wa_getfield (pc' := 85) (j := 0) zc_X10 lk_X10_7 dX10_names_82 rfl (by decide) rfl rfl ?_
      refine wa_iload_n (pc' := 86) dX10_names_85 rfl rfl rfl ?_
      refine wa_dS (pc' := 89) (w' := [_, _, _, _, _, _, _, _, _, _]) (k_X10_chord i (by omega)) ok_X10_chord lm_X10_94 dX10_names_86 rfl [] rfl (by decide) rfl rfl (by decide) (Nat.le_of_ble_eq_true rfl) rfl (by decide) (by decide) rfl rfl rfl ?_
      refine wa_iconst (pc' := 90) dX10_names_89 rfl ?_
      refine wa_iadd (pc' := 91) dX10_names_90 rfl ?_
      refine wa_iaload (pc' := 92) dX10_names_91 rfl rfl (by omega) (by omega) (by decide) ?_
      rw [f4]
      refine wa_bipush (pc' := 94) dX10_names_92 rfl rfl ?_
      refine wa_icmp_eq (tgt := 118) (pc' := 97) dX10_names_94 (by decide) rfl (by omega) (by omega) (fun c94 => ?_) (fun c94 => ?_)
      · refine wa_vret dX10_names_118 rfl (by decide) (by decide) ?_
        first | exact zD_i rfl (by rw [if_pos (by omega)] <;> rfl) | exact zD_i rfl (by rw [if_neg (by omega)] <;> rfl)
      · rw [if_neg (by omega)] at hr
        rw [List.length_cons, List.length_nil] at hr
        refine wa_aload_n (pc' := 98) dX10_names_97 rfl rfl rfl ?_
        refine wa_bipush (pc' := 100) dX10_names_98 rfl rfl ?_
        refine wa_iD2 (pc' := 103) (st := []) (k_X10_tells _ _ _ _ _ _ _ _ _ _ _ _ _ _ _ _ _ _ _ _ _ _ 47 (by omega)) ok_X10_tells lm_X10_136 dX10_names_100 rfl (wM_ok _ _ _ _ _ _ _ _ _ _ _ _ _ _ _ _ _ _ _ _ _ _) (Eq.refl 10) (wM_ok _ _ _ _ _ _ _ _ _ _ _ _ _ _ _ _ _ _ _ _ _ _) rfl rfl (Nat.le_of_ble_eq_true rfl) rfl rfl rfl rfl (by decide) (Nat.le_of_ble_eq_true rfl) rfl (by decide) (by decide) rfl rfl ?_
        show Wa _ _ _ _ _ _ _ _ [] _ _ _
        refine wa_aload_n (pc' := 104) dX10_names_103 rfl rfl rfl ?_
        refine wa_aload_n (pc' := 105) dX10_names_104 rfl rfl rfl ?_
        refine wa_getfield (pc' := 108) (j := 0) zc_X10 lk_X10_7 dX10_names_105 rfl (by decide) rfl rfl ?_
        refine wa_iload_n (pc' := 109) dX10_names_108 rfl rfl rfl ?_
        refine wa_dS (pc' := 112) (w' := [_, _, _, _, _, _, _, _, _, _]) (k_X10_chord i (by omega)) ok_X10_chord lm_X10_94 dX10_names_109 rfl [] rfl (by decide) rfl rfl (by decide) (Nat.le_of_ble_eq_true rfl) rfl (by decide) (by decide) rfl rfl rfl ?_
        refine wa_iconst (pc' := 113) dX10_names_112 rfl ?_
        refine wa_iadd (pc' := 114) dX10_names_113 rfl ?_
        refine wa_iaload (pc' := 115) dX10_names_114 rfl rfl (by omega) (by omega) (by decide) ?_
        rw [f4]
        refine wa_iD2 (pc' := 118) (st := []) (k_X10_tellsNote _ _ _ _ _ _ _ _ _ _ _ _ _ _ _ _ _ _ _ _ _ _ (s.2.2.1 (i * 5 + 4)) (by omega) ⟨by show 0 ≤ r.1 + 1; omega, by show r.1 + 1 + _ ≤ 20; omega⟩) ok_X10_tellsNote lm_X10_140 dX10_names_115 rfl (wM_ok _ _ _ _ _ _ _ _ _ _ _ _ _ _ _ _ _ _ _ _ _ _) (Eq.refl 10) (wM_ok _ _ _ _ _ _ _ _ _ _ _ _ _ _ _ _ _ _ _ _ _ _) rfl rfl (Nat.le_of_ble_eq_true rfl) rfl rfl rfl rfl (by decide) (Nat.le_of_ble_eq_true rfl) rfl (by decide) (by decide) rfl rfl ?_
        show Wa _ _ _ _ _ _ _ _ [] _ _ _
        refine wa_vret dX10_names_118 rfl (by decide) (by decide) ?_
        first | exact zD_i rfl (by rw [if_pos (by omega)] <;> rfl) | exact zD_i rfl (by rw [if_neg (by omega)] <;> rfl)
    · exact absurd c30 (by omega)
  | succ m ih =>
    intro k n r h0 hm hn hr
    have hqb := mQua_b k
    rw [nmL] at hr ⊢
    refine wa_iload_n (pc' := 25) dX10_names_24 rfl rfl rfl ?_
    refine wa_aload_n (pc' := 26) dX10_names_25 rfl rfl rfl ?_
    refine wa_getfield (pc' := 29) (j := 10) zc_X10 lk_X10_31 dX10_names_26 rfl (by decide) rfl rfl ?_
    refine wa_alen (pc' := 30) dX10_names_29 rfl rfl (by decide) ?_
    refine wa_icmp_ge (tgt := 81) (pc' := 33) dX10_names_30 (by decide) rfl (by omega) (by omega) (fun c30 => ?_) (fun c30 => ?_)
    · exact absurd c30 (by omega)
    · refine wa_aload_n (pc' := 34) dX10_names_33 rfl rfl rfl ?_
      refine wa_getfield (pc' := 37) (j := 10) zc_X10 lk_X10_31 dX10_names_34 rfl (by decide) rfl rfl ?_
      refine wa_iload_n (pc' := 38) dX10_names_37 rfl rfl rfl ?_
      refine wa_caload (pc' := 39) dX10_names_38 rfl rfl (by omega) (by omega) (by decide) ?_
      refine wa_bipush (pc' := 41) dX10_names_39 rfl rfl ?_
      refine wa_icmp_ne (tgt := 50) (pc' := 44) dX10_names_41 (by decide) rfl (by omega) (by omega) (fun c41 => ?_) (fun c41 => ?_)
      · rw [if_neg (by omega)] at hr ⊢
        refine wa_iload_n (pc' := 51) dX10_names_50 rfl rfl rfl ?_
        refine wa_aload_n (pc' := 52) dX10_names_51 rfl rfl rfl ?_
        refine wa_getfield (pc' := 55) (j := 0) zc_X10 lk_X10_7 dX10_names_52 rfl (by decide) rfl rfl ?_
        refine wa_iload_n (pc' := 56) dX10_names_55 rfl rfl rfl ?_
        refine wa_dS (pc' := 59) (w' := [_, _, _, _, _, _, _, _, _, _]) (k_X10_chord i (by omega)) ok_X10_chord lm_X10_94 dX10_names_56 rfl [] rfl (by decide) rfl rfl (by decide) (Nat.le_of_ble_eq_true rfl) rfl (by decide) (by decide) rfl rfl rfl ?_
        refine wa_iconst (pc' := 60) dX10_names_59 rfl ?_
        refine wa_iadd (pc' := 61) dX10_names_60 rfl ?_
        refine wa_iaload (pc' := 62) dX10_names_61 rfl rfl (by omega) (by omega) (by decide) ?_
        rw [f3]
        refine wa_icmp_ne (tgt := 75) (pc' := 65) dX10_names_62 (by decide) rfl (by omega) (by omega) (fun c62 => ?_) (fun c62 => ?_)
        · rw [if_neg (by omega)] at hr ⊢
          refine wa_iinc (pc' := 78) (ls' := [(3, _), (2, _), (0, _), (1, _)]) dX10_names_75 rfl rfl (by decide) rfl ?_
          refine wa_goto (pc' := 24) dX10_names_78 (by decide) ?_
          first | exact ih (k + 1) (n + 1) r (by omega) (by omega) (by omega) hr | exact ih (k + 1) n r (by omega) (by omega) (by omega) hr | exact ih (k + 1) n (rA r (mQua k)) (by omega) (by omega) (by omega) ⟨by show 0 ≤ r.1 + 1; omega, by show r.1 + 1 + _ + _ ≤ 20; omega⟩
        · rw [if_pos (by omega)] at hr ⊢
          rw [List.length_cons] at hr
          refine wa_aload_n (pc' := 66) dX10_names_65 rfl rfl rfl ?_
          refine wa_aload_n (pc' := 67) dX10_names_66 rfl rfl rfl ?_
          refine wa_getfield (pc' := 70) (j := 10) zc_X10 lk_X10_31 dX10_names_67 rfl (by decide) rfl rfl ?_
          refine wa_iload_n (pc' := 71) dX10_names_70 rfl rfl rfl ?_
          refine wa_caload (pc' := 72) dX10_names_71 rfl rfl (by omega) (by omega) (by decide) ?_
          refine wa_iD2 (pc' := 75) (st := []) (k_X10_tells _ _ _ _ _ _ _ _ _ _ _ _ _ _ _ _ _ _ _ _ _ _ (mQua k) (by omega)) ok_X10_tells lm_X10_136 dX10_names_72 rfl (wM_ok _ _ _ _ _ _ _ _ _ _ _ _ _ _ _ _ _ _ _ _ _ _) (Eq.refl 10) (wM_ok _ _ _ _ _ _ _ _ _ _ _ _ _ _ _ _ _ _ _ _ _ _) rfl rfl (Nat.le_of_ble_eq_true rfl) rfl rfl rfl rfl (by decide) (Nat.le_of_ble_eq_true rfl) rfl (by decide) (by decide) rfl rfl ?_
          show Wa _ _ _ _ _ _ _ _ [] _ _ _
          refine wa_iinc (pc' := 78) (ls' := [(3, _), (2, _), (0, _), (1, _)]) dX10_names_75 rfl rfl (by decide) rfl ?_
          refine wa_goto (pc' := 24) dX10_names_78 (by decide) ?_
          first | exact ih (k + 1) (n + 1) r (by omega) (by omega) (by omega) hr | exact ih (k + 1) n r (by omega) (by omega) (by omega) hr | exact ih (k + 1) n (rA r (mQua k)) (by omega) (by omega) (by omega) ⟨by show 0 ≤ r.1 + 1; omega, by show r.1 + 1 + _ + _ ≤ 20; omega⟩
      · rw [if_pos (by omega)] at hr ⊢
        refine wa_iinc (pc' := 47) (ls' := [(2, _), (3, _), (0, _), (1, _)]) dX10_names_44 rfl rfl (by decide) rfl ?_
        refine wa_goto (pc' := 75) dX10_names_47 (by decide) ?_
        refine wa_iinc (pc' := 78) (ls' := [(3, _), (2, _), (0, _), (1, _)]) dX10_names_75 rfl rfl (by decide) rfl ?_
        refine wa_goto (pc' := 24) dX10_names_78 (by decide) ?_
        first | exact ih (k + 1) (n + 1) r (by omega) (by omega) (by omega) hr | exact ih (k + 1) n r (by omega) (by omega) (by omega) hr | exact ih (k + 1) n (rA r (mQua k)) (by omega) (by omega) (by omega) ⟨by show 0 ≤ r.1 + 1; omega, by show r.1 + 1 + _ + _ ≤ 20; omega⟩

set_option maxRecDepth 10000 in
set_option maxHeartbeats 1000000 in
theorem k_X10_names (s : zSh) (v pa : Int → Int) (sn : Int) (tx : Int → Int) (ty si fl wi th ap nt rr rq rb wh : Int) (md na : Int → Int) (nd : Int) (up lo : Int → Int) (us lw : Int) (i : Int) (hs : okW s) (hv : Vr s v) (hi : 0 ≤ i ∧ i < s.2.2.2.2.1) : zMet q_X10_names 2 0 0 [zR 0, zI i] (wM v pa sn tx ty si fl wi th ap nt rr rq rb wh md na nd up lo us lw) (zD (none) (wM v pa sn tx ty si fl wi th ap nt rr rq rb wh md ((rL (0, na) (nameL (s.2.2.1 (i * 5 + 2)) (s.2.2.1 (i * 5 + 3)) (s.2.2.1 (i * 5 + 4)))).2) ((rL (0, na) (nameL (s.2.2.1 (i * 5 + 2)) (s.2.2.1 (i * 5 + 3)) (s.2.2.1 (i * 5 + 4)))).1) up lo us lw)) := by
  refine z_introF (ls := [(0, _), (1, _)]) (by decide +kernel) rfl (fun _ _ => rfl) (fun _ _ => Nat.le_of_ble_eq_true rfl) ?_
  obtain ⟨v0, v1, v2, v3, vT, vF, vL⟩ := id hv
  have hz := hs.1
  obtain ⟨z1, z2, zT1, z4, zF1, zL1⟩ := id hz.1
  have zNm := hz.2.1
  have zg := hz.2.2.1
  have zm := hz.2.2.2.1
  have zln := hz.2.2.2.2
  have vS := Vr_sg hv zm
  have zQ1 := fun i h1 h2 => (zNm i h1 h2).2.1
  have f2 := Vr_F hv (i := i) (f := 2) hi (by omega)
  have f3 := Vr_F hv (i := i) (f := 3) hi (by omega)
  have f4 := Vr_F hv (i := i) (f := 4) hi (by omega)
  obtain ⟨n1, n2, n3⟩ := zNm i hi.1 hi.2
  have n4 := nameL_n n1 n2 n3
  have n5 := noteL_n n1
  have n6 := zby_n n2
  have e9 := nmL_e (s.2.2.1 (i * 5 + 3)).toNat (by omega)
  rw [show (((s.2.2.1 (i * 5 + 3)).toNat : Nat) : Int) = s.2.2.1 (i * 5 + 3) by omega] at e9
  have e8 : (nameL (s.2.2.1 (i * 5 + 2)) (s.2.2.1 (i * 5 + 3)) (s.2.2.1 (i * 5 + 4))).length = (noteL (s.2.2.1 (i * 5 + 2))).length + ((s.2.2.1 (i * 5 + 3) |> fun q => (zBytes.getD q.toNat [])).length + (if s.2.2.1 (i * 5 + 4) = 100 then [] else 47 :: noteL (s.2.2.1 (i * 5 + 4))).length) := by
    unfold nameL
    rw [List.length_append, List.length_append]
  have e7 := rL_len (0, na) (noteL (s.2.2.1 (i * 5 + 2)))
  refine wa_aload_n (pc' := 1) dX10_names_0 rfl rfl rfl ?_
  refine wa_iconst (pc' := 2) dX10_names_1 rfl ?_
  refine wa_putfield (pc' := 5) (j := 19) (w' := [zO _ [_, _, _, _, _, _, _, _, _, _, _, _, _, _, _, _, _, _, _, _, _, _, _, _], _, _, _, _, _, _, _, _, _]) zc_X10 lk_X10_133 dX10_names_2 rfl (by decide) rfl rfl (Nat.le_of_ble_eq_true rfl) True.intro rfl ?_
  refine wa_aload_n (pc' := 6) dX10_names_5 rfl rfl rfl ?_
  refine wa_aload_n (pc' := 7) dX10_names_6 rfl rfl rfl ?_
  refine wa_getfield (pc' := 10) (j := 0) zc_X10 lk_X10_7 dX10_names_7 rfl (by decide) rfl rfl ?_
  refine wa_iload_n (pc' := 11) dX10_names_10 rfl rfl rfl ?_
  refine wa_dS (pc' := 14) (w' := [_, _, _, _, _, _, _, _, _, _]) (k_X10_chord i (by omega)) ok_X10_chord lm_X10_94 dX10_names_11 rfl [] rfl (by decide) rfl rfl (by decide) (Nat.le_of_ble_eq_true rfl) rfl (by decide) (by decide) rfl rfl rfl ?_
  refine wa_iconst (pc' := 15) dX10_names_14 rfl ?_
  refine wa_iadd (pc' := 16) dX10_names_15 rfl ?_
  refine wa_iaload (pc' := 17) dX10_names_16 rfl rfl (by omega) (by omega) (by decide) ?_
  rw [f2]
  refine wa_iD2 (pc' := 20) (st := []) (k_X10_tellsNote _ _ _ _ _ _ _ _ _ _ _ _ _ _ _ _ _ _ _ _ _ _ (s.2.2.1 (i * 5 + 2)) (by omega) ⟨by omega, by omega⟩) ok_X10_tellsNote lm_X10_140 dX10_names_17 rfl (wM_ok _ _ _ _ _ _ _ _ _ _ _ _ _ _ _ _ _ _ _ _ _ _) (Eq.refl 10) (wM_ok _ _ _ _ _ _ _ _ _ _ _ _ _ _ _ _ _ _ _ _ _ _) rfl rfl (Nat.le_of_ble_eq_true rfl) rfl rfl rfl rfl (by decide) (Nat.le_of_ble_eq_true rfl) rfl (by decide) (by decide) rfl rfl ?_
  show Wa _ _ _ _ _ _ _ _ [] _ _ _
  refine wa_iconst (pc' := 21) dX10_names_20 rfl ?_
  refine wa_istore_n (pc' := 22) (ls' := [(2, _), (0, _), (1, _)]) dX10_names_21 rfl rfl (by decide) rfl ?_
  refine wa_iconst (pc' := 23) dX10_names_22 rfl ?_
  refine wa_istore_n (pc' := 24) (ls' := [(3, _), (2, _), (0, _), (1, _)]) dX10_names_23 rfl rfl (by decide) rfl ?_
  have h24 := l_names s v pa sn tx ty si fl wi th ap nt rr rq rb wh md up lo us lw i hi hs hv (nameL (s.2.2.1 (i * 5 + 2)) (s.2.2.1 (i * 5 + 3)) (s.2.2.1 (i * 5 + 4))) rfl 30 0 0 (rL (0, na) (noteL (s.2.2.1 (i * 5 + 2)))) (by omega) (by omega) (by omega) ⟨by omega, by rw [e9]; simp only at e8; omega⟩
  rw [e9, ← rL_app, ← rL_app, ← show (nameL (s.2.2.1 (i * 5 + 2)) (s.2.2.1 (i * 5 + 3)) (s.2.2.1 (i * 5 + 4))) = noteL (s.2.2.1 (i * 5 + 2)) ++ (zBytes.getD (s.2.2.1 (i * 5 + 3)).toNat [] ++ (if s.2.2.1 (i * 5 + 4) = 100 then [] else 47 :: noteL (s.2.2.1 (i * 5 + 4)))) from rfl] at h24
  exact h24

set_option maxRecDepth 10000 in
set_option maxHeartbeats 1000000 in
theorem k_X10_nameChar (s : zSh) (v pa : Int → Int) (sn : Int) (tx : Int → Int) (ty si fl wi th ap nt rr rq rb wh : Int) (md na : Int → Int) (nd : Int) (up lo : Int → Int) (us lw : Int) (i : Int) (k : Int) (hs : okW s) (hv : Vr s v) (hi : zin i) (hk : zin k) : zMet q_X10_nameChar 3 0 0 [zR 0, zI i, zI k] (wM v pa sn tx ty si fl wi th ap nt rr rq rb wh md na nd up lo us lw) (zD (some (zI (if (0 ≤ i ∧ i < s.2.2.2.2.1) ∧ 0 ≤ k then (if k < (rL (0, na) (nameL (s.2.2.1 (i * 5 + 2)) (s.2.2.1 (i * 5 + 3)) (s.2.2.1 (i * 5 + 4)))).1 then (rL (0, na) (nameL (s.2.2.1 (i * 5 + 2)) (s.2.2.1 (i * 5 + 3)) (s.2.2.1 (i * 5 + 4)))).2 k else -1) else 0))) (wM v pa sn tx ty si fl wi (if (0 ≤ i ∧ i < s.2.2.2.2.1) ∧ 0 ≤ k then 0 else 1) ap nt rr rq rb wh md (if (0 ≤ i ∧ i < s.2.2.2.2.1) ∧ 0 ≤ k then (rL (0, na) (nameL (s.2.2.1 (i * 5 + 2)) (s.2.2.1 (i * 5 + 3)) (s.2.2.1 (i * 5 + 4)))).2 else na) (if (0 ≤ i ∧ i < s.2.2.2.2.1) ∧ 0 ≤ k then (rL (0, na) (nameL (s.2.2.1 (i * 5 + 2)) (s.2.2.1 (i * 5 + 3)) (s.2.2.1 (i * 5 + 4)))).1 else nd) up lo us lw)) := by
  refine z_introF (ls := [(0, _), (1, _), (2, _)]) (by decide +kernel) rfl (fun _ _ => rfl) (fun _ _ => Nat.le_of_ble_eq_true rfl) ?_
  obtain ⟨v0, v1, v2, v3, vT, vF, vL⟩ := id hv
  have hz := hs.1
  obtain ⟨z1, z2, zT1, z4, zF1, zL1⟩ := id hz.1
  have zNm := hz.2.1
  have zg := hz.2.2.1
  have zm := hz.2.2.2.1
  have zln := hz.2.2.2.2
  have vS := Vr_sg hv zm
  have zQ1 := fun i h1 h2 => (zNm i h1 h2).2.1
  refine wa_aload_n (pc' := 1) dX10_nameChar_0 rfl rfl rfl ?_
  refine wa_iconst (pc' := 2) dX10_nameChar_1 rfl ?_
  refine wa_putfield (pc' := 5) (j := 8) (w' := [zO _ [_, _, _, _, _, _, _, _, _, _, _, _, _, _, _, _, _, _, _, _, _, _, _, _], _, _, _, _, _, _, _, _, _]) zc_X10 lk_X10_46 dX10_nameChar_2 rfl (by decide) rfl rfl (Nat.le_of_ble_eq_true rfl) True.intro rfl ?_
  refine wa_aload_n (pc' := 6) dX10_nameChar_5 rfl rfl rfl ?_
  refine wa_iload_n (pc' := 7) dX10_nameChar_6 rfl rfl rfl ?_
  refine wa_rI2 (pc' := 10) (st := []) (k_X10_isChord s _ _ _ _ _ _ _ _ _ _ _ _ _ _ _ _ _ _ _ _ _ _ _ hs hv (by omega) ) ok_X10_isChord lm_X10_127 dX10_nameChar_7 rfl (wM_ok _ _ _ _ _ _ _ _ _ _ _ _ _ _ _ _ _ _ _ _ _ _) rfl rfl (Nat.le_of_ble_eq_true rfl) rfl rfl rfl rfl (by decide) (Nat.le_of_ble_eq_true rfl) rfl (by decide) (by decide) rfl rfl ?_
  refine wa_if_eq (tgt := 17) (pc' := 13) dX10_nameChar_10 (by decide) rfl (by split <;> omega) (fun c10 => ?_) (fun c10 => ?_)
  · have h10 := ite0 c10
    refine wa_aload_n (pc' := 18) dX10_nameChar_17 rfl rfl rfl ?_
    refine wa_iconst (pc' := 19) dX10_nameChar_18 rfl ?_
    refine wa_iD2 (pc' := 22) (st := []) (k_X10_fails _ _ _ _ _ _ _ _ _ _ _ _ _ _ _ _ _ _ _ _ _ _ _ ) ok_X10_fails lm_X10_101 dX10_nameChar_19 rfl (wM_ok _ _ _ _ _ _ _ _ _ _ _ _ _ _ _ _ _ _ _ _ _ _) (Eq.refl 10) (wM_ok _ _ _ _ _ _ _ _ _ _ _ _ _ _ _ _ _ _ _ _ _ _) rfl rfl (Nat.le_of_ble_eq_true rfl) rfl rfl rfl rfl (by decide) (Nat.le_of_ble_eq_true rfl) rfl (by decide) (by decide) rfl rfl ?_
    show Wa _ _ _ _ _ _ _ _ [_] _ _ _
    refine wa_iret dX10_nameChar_22 rfl (by decide) (by decide) ?_
    first | exact zD_i (by (repeat (first | rw [if_pos (by omega)] | rw [if_neg (by omega)])) <;> rfl) (by (repeat (first | rw [if_pos (by omega)] | rw [if_neg (by omega)])) <;> rfl) | exact zD_i (by rw [if_pos (by omega), if_pos (by omega)]) (by rw [if_pos (by omega), if_pos (by omega), if_pos (by omega)])
  · have h10 := ite1 c10
    refine wa_iload_n (pc' := 14) dX10_nameChar_13 rfl rfl rfl ?_
    refine wa_if_ge (tgt := 23) (pc' := 17) dX10_nameChar_14 (by decide) rfl (by omega) (fun c14 => ?_) (fun c14 => ?_)
    · obtain ⟨n1, n2, n3⟩ := zNm i h10.1 h10.2
      have n4 := nameL_n n1 n2 n3
      have n5 := rL_len (0, na) (nameL (s.2.2.1 (i * 5 + 2)) (s.2.2.1 (i * 5 + 3)) (s.2.2.1 (i * 5 + 4)))
      refine wa_aload_n (pc' := 24) dX10_nameChar_23 rfl rfl rfl ?_
      refine wa_iload_n (pc' := 25) dX10_nameChar_24 rfl rfl rfl ?_
      refine wa_iD2 (pc' := 28) (st := []) (k_X10_names s _ _ _ _ _ _ _ _ _ _ _ _ _ _ _ _ _ _ _ _ _ _ i hs hv (by omega)) ok_X10_names lm_X10_143 dX10_nameChar_25 rfl (wM_ok _ _ _ _ _ _ _ _ _ _ _ _ _ _ _ _ _ _ _ _ _ _) (Eq.refl 10) (wM_ok _ _ _ _ _ _ _ _ _ _ _ _ _ _ _ _ _ _ _ _ _ _) rfl rfl (Nat.le_of_ble_eq_true rfl) rfl rfl rfl rfl (by decide) (Nat.le_of_ble_eq_true rfl) rfl (by decide) (by decide) rfl rfl ?_
      show Wa _ _ _ _ _ _ _ _ [] _ _ _
      refine wa_iload_n (pc' := 29) dX10_nameChar_28 rfl rfl rfl ?_
      refine wa_aload_n (pc' := 30) dX10_nameChar_29 rfl rfl rfl ?_
      refine wa_getfield (pc' := 33) (j := 19) zc_X10 lk_X10_133 dX10_nameChar_30 rfl (by decide) rfl rfl ?_
      refine wa_icmp_ge (tgt := 45) (pc' := 36) dX10_nameChar_33 (by decide) rfl (by omega) (by omega) (fun c33 => ?_) (fun c33 => ?_)
      · refine wa_iconst (pc' := 46) dX10_nameChar_45 rfl ?_
        refine wa_iret dX10_nameChar_46 rfl (by decide) (by decide) ?_
        first | exact zD_i (by (repeat (first | rw [if_pos (by omega)] | rw [if_neg (by omega)])) <;> rfl) (by (repeat (first | rw [if_pos (by omega)] | rw [if_neg (by omega)])) <;> rfl) | exact zD_i (by rw [if_pos (by omega), if_pos (by omega)]) (by rw [if_pos (by omega), if_pos (by omega), if_pos (by omega)])
      · refine wa_aload_n (pc' := 37) dX10_nameChar_36 rfl rfl rfl ?_
        refine wa_getfield (pc' := 40) (j := 18) zc_X10 lk_X10_37 dX10_nameChar_37 rfl (by decide) rfl rfl ?_
        refine wa_iload_n (pc' := 41) dX10_nameChar_40 rfl rfl rfl ?_
        refine wa_iaload (pc' := 42) dX10_nameChar_41 rfl rfl (by omega) (by omega) (by decide) ?_
        refine wa_goto (pc' := 46) dX10_nameChar_42 (by decide) ?_
        refine wa_iret dX10_nameChar_46 rfl (by decide) (by decide) ?_
        first | exact zD_i (by (repeat (first | rw [if_pos (by omega)] | rw [if_neg (by omega)])) <;> rfl) (by (repeat (first | rw [if_pos (by omega)] | rw [if_neg (by omega)])) <;> rfl) | exact zD_i (by rw [if_pos (by omega), if_pos (by omega)]) (by rw [if_pos (by omega), if_pos (by omega), if_pos (by omega)])
    · refine wa_aload_n (pc' := 18) dX10_nameChar_17 rfl rfl rfl ?_
      refine wa_iconst (pc' := 19) dX10_nameChar_18 rfl ?_
      refine wa_iD2 (pc' := 22) (st := []) (k_X10_fails _ _ _ _ _ _ _ _ _ _ _ _ _ _ _ _ _ _ _ _ _ _ _ ) ok_X10_fails lm_X10_101 dX10_nameChar_19 rfl (wM_ok _ _ _ _ _ _ _ _ _ _ _ _ _ _ _ _ _ _ _ _ _ _) (Eq.refl 10) (wM_ok _ _ _ _ _ _ _ _ _ _ _ _ _ _ _ _ _ _ _ _ _ _) rfl rfl (Nat.le_of_ble_eq_true rfl) rfl rfl rfl rfl (by decide) (Nat.le_of_ble_eq_true rfl) rfl (by decide) (by decide) rfl rfl ?_
      show Wa _ _ _ _ _ _ _ _ [_] _ _ _
      refine wa_iret dX10_nameChar_22 rfl (by decide) (by decide) ?_
      first | exact zD_i (by (repeat (first | rw [if_pos (by omega)] | rw [if_neg (by omega)])) <;> rfl) (by (repeat (first | rw [if_pos (by omega)] | rw [if_neg (by omega)])) <;> rfl) | exact zD_i (by rw [if_pos (by omega), if_pos (by omega)]) (by rw [if_pos (by omega), if_pos (by omega), if_pos (by omega)])

