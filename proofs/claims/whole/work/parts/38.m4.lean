/-! the reference: states -/
def shfR : Nat → Int → (Int → Int) → Int → Int
  | 0, _, f => f
  | m + 1, k, f => shfR m (k + 1) (zup f k (f (k + 620)))
theorem shfR_e : ∀ (m : Nat) (k : Int) (f : Int → Int), shfR m k f = fun j => if k ≤ j ∧ j < k + m then f (j + 620) else f j
  | 0, k, f => by
    funext j
    rw [if_neg (by omega)]
    rfl
  | m + 1, k, f => by
    rw [shfR, shfR_e m (k + 1)]
    funext j
    show (if k + 1 ≤ j ∧ j < k + 1 + m then (if j + 620 = k then _ else f (j + 620)) else (if j = k then f (k + 620) else f j)) = _
    by_cases h1 : k + 1 ≤ j ∧ j < k + 1 + m
    · rw [if_pos h1, if_neg (by omega), if_pos (by omega)]
    · rw [if_neg h1]
      by_cases h2 : j = k
      · rw [if_pos h2, if_pos (by omega), h2]
      · rw [if_neg h2, if_neg (by omega)]
def cpyR (a : Int) (g : Int → Int) : Nat → Int → (Int → Int) → Int → Int
  | 0, _, f => f
  | m + 1, k, f => cpyR a g m (k + 1) (zup f (a + k) (g k))
theorem cpyR_e (a : Int) (g : Int → Int) : ∀ (m : Nat) (k : Int) (f : Int → Int), cpyR a g m k f = fun j => if a + k ≤ j ∧ j < a + k + m then g (j - a) else f j
  | 0, k, f => by
    funext j
    rw [if_neg (by omega)]
    rfl
  | m + 1, k, f => by
    rw [cpyR, cpyR_e a g m (k + 1)]
    funext j
    show (if a + (k + 1) ≤ j ∧ j < a + (k + 1) + m then g (j - a) else (if j = a + k then g k else f j)) = _
    by_cases h1 : a + (k + 1) ≤ j ∧ j < a + (k + 1) + m
    · rw [if_pos h1, if_pos (by omega)]
    · rw [if_neg h1]
      by_cases h2 : j = a + k
      · rw [if_pos h2, if_pos (by omega), show j - a = k by omega]
      · rw [if_neg h2, if_neg (by omega)]
/-- the past with one state more -/
def actP (v : Int → Int) (sn : Int) (pa : Int → Int) : Int → Int := fun j => if 620 * (if sn = 8 then 7 else sn) ≤ j ∧ j < 620 * (if sn = 8 then 7 else sn) + 620 then v (j - 620 * (if sn = 8 then 7 else sn)) else if sn = 8 ∧ 0 ≤ j ∧ j < 4340 then pa (j + 620) else pa j
def redP (md v : Int → Int) : Int → Int := fun j => if 0 ≤ j ∧ j < 620 then md j else v j
def undP (pa : Int → Int) (sn : Int) (v : Int → Int) : Int → Int := fun j => if 0 ≤ j ∧ j < 620 then pa (620 * sn + j) else v j
theorem actP_7 (v pa : Int → Int) : cpyR (620 * 7) v 620 0 (shfR 4340 0 pa) = actP v 8 pa := by
  rw [cpyR_e, shfR_e]
  funext j
  show _ = (if 620 * (if (8 : Int) = 8 then 7 else 8) ≤ j ∧ j < 620 * (if (8 : Int) = 8 then 7 else 8) + 620 then v (j - 620 * (if (8 : Int) = 8 then 7 else 8)) else if (8 : Int) = 8 ∧ 0 ≤ j ∧ j < 4340 then pa (j + 620) else pa j)
  rw [if_pos (show (8 : Int) = 8 from rfl)]
  by_cases h1 : 620 * 7 ≤ j ∧ j < 620 * 7 + 620
  · rw [if_pos h1, if_pos (by omega)]
  · rw [if_neg h1, if_neg (by omega)]
    show (if 0 ≤ j ∧ j < 0 + ((4340 : Nat) : Int) then pa (j + 620) else pa j) = _
    by_cases h2 : 0 ≤ j ∧ j < 4340
    · rw [if_pos (by omega), if_pos (by omega)]
    · rw [if_neg (by omega), if_neg (by omega)]
theorem actP_n {sn : Int} (v pa : Int → Int) (h : ¬ sn = 8) : cpyR (620 * sn) v 620 0 pa = actP v sn pa := by
  rw [cpyR_e]
  funext j
  unfold actP
  rw [if_neg h]
  by_cases h1 : 620 * sn ≤ j ∧ j < 620 * sn + 620
  · rw [if_pos h1, if_pos (by omega)]
  · rw [if_neg h1, if_neg (by omega), if_neg (fun h9 => h h9.1)]
def opR : Nat → Int → (Int → Int) → Int → Int
  | 0, _, f => f
  | m + 1, k, f => opR m (k - 1) (zup f k (f (k - 5)))
def clR : Nat → Int → (Int → Int) → Int → Int
  | 0, _, f => f
  | m + 1, k, f => clR m (k + 1) (zup f k (f (k + 5)))
def clZ (c : Int) : Nat → Int → (Int → Int) → Int → Int
  | 0, _, f => f
  | m + 1, k, f => clZ c m (k + 1) (zup f (210 + 5 * c + k) 0)
theorem zup9_ne {f : Int → Int} {i x j : Int} (h : ¬ j = i) : zup f i x j = f j := if_neg h
theorem zup9_eq {f : Int → Int} {i x : Int} : zup f i x i = x := if_pos rfl
set_option maxRecDepth 10000 in
set_option maxHeartbeats 1000000 in
theorem l_acts2 (v : Int → Int) (sn : Int) (tx : Int → Int) (ty si fl wi th ap nt rr rq rb wh : Int) (md na : Int → Int) (nd : Int) (up lo : Int → Int) (us lw : Int) (hsn : 0 ≤ sn ∧ sn < 8) (R : Int → Int) : ∀ (m : Nat) (k : Int) (f : Int → Int), 0 ≤ k → k + m = 620 → cpyR (620 * sn) v m k f = R → Wa q_X10_acts 0 0 0 10 (zD none (wM v R (sn + 1) tx ty si fl wi th ap nt rr rq rb wh md na nd up lo us lw)) 52 [(1, zI k), (0, zR 0)] [] (wM v f sn tx ty si fl wi th ap nt rr rq rb wh md na nd up lo us lw) 0 0 := by
  intro m
  induction m with
  | zero =>
    intro k f h0 hm hR
    subst hR
    refine wa_iload_n (pc' := 53) dX10_acts_52 rfl rfl rfl ?_
    refine wa_sipush (pc' := 56) dX10_acts_53 rfl rfl ?_
    refine wa_icmp_ge (tgt := 86) (pc' := 59) dX10_acts_56 (by decide) rfl (by omega) (by omega) (fun c56 => ?_) (fun c56 => ?_)
    · refine wa_aload_n (pc' := 87) dX10_acts_86 rfl rfl rfl ?_
      refine wa_dup (pc' := 88) dX10_acts_87 rfl rfl ?_
      refine wa_getfield (pc' := 91) (j := 2) zc_X10 lk_X10_49 dX10_acts_88 rfl (by decide) rfl rfl ?_
      refine wa_iconst (pc' := 92) dX10_acts_91 rfl ?_
      refine wa_iadd (pc' := 93) dX10_acts_92 rfl ?_
      refine wa_putfield (pc' := 96) (j := 2) (w' := [zO _ [_, _, _, _, _, _, _, _, _, _, _, _, _, _, _, _, _, _, _, _, _, _, _, _], _, _, _, _, _, _, _, _, _]) zc_X10 lk_X10_49 dX10_acts_93 rfl (by decide) rfl rfl (Nat.le_of_ble_eq_true rfl) True.intro rfl ?_
      refine wa_vret dX10_acts_96 rfl (by decide) (by decide) ?_
      exact zD_i rfl rfl
    · exact absurd c56 (by omega)
  | succ m ih =>
    intro k f h0 hm hR
    refine wa_iload_n (pc' := 53) dX10_acts_52 rfl rfl rfl ?_
    refine wa_sipush (pc' := 56) dX10_acts_53 rfl rfl ?_
    refine wa_icmp_ge (tgt := 86) (pc' := 59) dX10_acts_56 (by decide) rfl (by omega) (by omega) (fun c56 => ?_) (fun c56 => ?_)
    · exact absurd c56 (by omega)
    · refine wa_aload_n (pc' := 60) dX10_acts_59 rfl rfl rfl ?_
      refine wa_getfield (pc' := 63) (j := 1) zc_X10 lk_X10_13 dX10_acts_60 rfl (by decide) rfl rfl ?_
      refine wa_sipush (pc' := 66) dX10_acts_63 rfl rfl ?_
      refine wa_aload_n (pc' := 67) dX10_acts_66 rfl rfl rfl ?_
      refine wa_getfield (pc' := 70) (j := 2) zc_X10 lk_X10_49 dX10_acts_67 rfl (by decide) rfl rfl ?_
      refine wa_imul (pc' := 71) dX10_acts_70 rfl ?_
      refine wa_iload_n (pc' := 72) dX10_acts_71 rfl rfl rfl ?_
      refine wa_iadd (pc' := 73) dX10_acts_72 rfl ?_
      refine wa_aload_n (pc' := 74) dX10_acts_73 rfl rfl rfl ?_
      refine wa_getfield (pc' := 77) (j := 0) zc_X10 lk_X10_7 dX10_acts_74 rfl (by decide) rfl rfl ?_
      refine wa_iload_n (pc' := 78) dX10_acts_77 rfl rfl rfl ?_
      refine wa_iaload (pc' := 79) dX10_acts_78 rfl rfl (by omega) (by omega) (by decide) ?_
      refine wa_iastore (pc' := 80) (w' := [_, _, zA _ _ _, _, _, _, _, _, _, _]) dX10_acts_79 rfl rfl (by omega) (by omega) (by decide) rfl ?_
      refine wa_iinc (pc' := 83) (ls' := [(1, _), (0, _)]) dX10_acts_80 rfl rfl (by decide) rfl ?_
      refine wa_goto (pc' := 52) dX10_acts_83 (by decide) ?_
      exact ih (k + 1) _ (by omega) (by omega) hR

set_option maxRecDepth 10000 in
set_option maxHeartbeats 1000000 in
theorem l_acts1 (v : Int → Int)  (tx : Int → Int) (ty si fl wi th ap nt rr rq rb wh : Int) (md na : Int → Int) (nd : Int) (up lo : Int → Int) (us lw : Int) (R : Int → Int) : ∀ (m : Nat) (k : Int) (f : Int → Int), 0 ≤ k → k + m = 4340 → cpyR (620 * 7) v 620 0 (shfR m k f) = R → Wa q_X10_acts 0 0 0 10 (zD none (wM v R 8 tx ty si fl wi th ap nt rr rq rb wh md na nd up lo us lw)) 11 [(1, zI k), (0, zR 0)] [] (wM v f 8 tx ty si fl wi th ap nt rr rq rb wh md na nd up lo us lw) 0 0 := by
  intro m
  induction m with
  | zero =>
    intro k f h0 hm hR
    refine wa_iload_n (pc' := 12) dX10_acts_11 rfl rfl rfl ?_
    refine wa_sipush (pc' := 15) dX10_acts_12 rfl rfl ?_
    refine wa_icmp_ge (tgt := 40) (pc' := 18) dX10_acts_15 (by decide) rfl (by omega) (by omega) (fun c15 => ?_) (fun c15 => ?_)
    · refine wa_aload_n (pc' := 41) dX10_acts_40 rfl rfl rfl ?_
      refine wa_dup (pc' := 42) dX10_acts_41 rfl rfl ?_
      refine wa_getfield (pc' := 45) (j := 2) zc_X10 lk_X10_49 dX10_acts_42 rfl (by decide) rfl rfl ?_
      refine wa_iconst (pc' := 46) dX10_acts_45 rfl ?_
      refine wa_isub (pc' := 47) dX10_acts_46 rfl ?_
      refine wa_putfield (pc' := 50) (j := 2) (w' := [zO _ [_, _, _, _, _, _, _, _, _, _, _, _, _, _, _, _, _, _, _, _, _, _, _, _], _, _, _, _, _, _, _, _, _]) zc_X10 lk_X10_49 dX10_acts_47 rfl (by decide) rfl rfl (Nat.le_of_ble_eq_true rfl) True.intro rfl ?_
      refine wa_iconst (pc' := 51) dX10_acts_50 rfl ?_
      refine wa_istore_n (pc' := 52) (ls' := [(1, _), (0, _)]) dX10_acts_51 rfl rfl (by decide) rfl ?_
      exact l_acts2 v 7 tx ty si fl wi th ap nt rr rq rb wh md na nd up lo us lw (by omega) R 620 0 f (by omega) (by omega) hR
    · exact absurd c15 (by omega)
  | succ m ih =>
    intro k f h0 hm hR
    refine wa_iload_n (pc' := 12) dX10_acts_11 rfl rfl rfl ?_
    refine wa_sipush (pc' := 15) dX10_acts_12 rfl rfl ?_
    refine wa_icmp_ge (tgt := 40) (pc' := 18) dX10_acts_15 (by decide) rfl (by omega) (by omega) (fun c15 => ?_) (fun c15 => ?_)
    · exact absurd c15 (by omega)
    · refine wa_aload_n (pc' := 19) dX10_acts_18 rfl rfl rfl ?_
      refine wa_getfield (pc' := 22) (j := 1) zc_X10 lk_X10_13 dX10_acts_19 rfl (by decide) rfl rfl ?_
      refine wa_iload_n (pc' := 23) dX10_acts_22 rfl rfl rfl ?_
      refine wa_aload_n (pc' := 24) dX10_acts_23 rfl rfl rfl ?_
      refine wa_getfield (pc' := 27) (j := 1) zc_X10 lk_X10_13 dX10_acts_24 rfl (by decide) rfl rfl ?_
      refine wa_iload_n (pc' := 28) dX10_acts_27 rfl rfl rfl ?_
      refine wa_sipush (pc' := 31) dX10_acts_28 rfl rfl ?_
      refine wa_iadd (pc' := 32) dX10_acts_31 rfl ?_
      refine wa_iaload (pc' := 33) dX10_acts_32 rfl rfl (by omega) (by omega) (by decide) ?_
      refine wa_iastore (pc' := 34) (w' := [_, _, zA _ _ _, _, _, _, _, _, _, _]) dX10_acts_33 rfl rfl (by omega) (by omega) (by decide) rfl ?_
      refine wa_iinc (pc' := 37) (ls' := [(1, _), (0, _)]) dX10_acts_34 rfl rfl (by decide) rfl ?_
      refine wa_goto (pc' := 11) dX10_acts_37 (by decide) ?_
      exact ih (k + 1) _ (by omega) (by omega) hR

set_option maxRecDepth 10000 in
set_option maxHeartbeats 1000000 in
theorem k_X10_acts (v pa : Int → Int) (sn : Int) (tx : Int → Int) (ty si fl wi th ap nt rr rq rb wh : Int) (md na : Int → Int) (nd : Int) (up lo : Int → Int) (us lw : Int)  (hsn : 0 ≤ sn ∧ sn ≤ 8) : zMet q_X10_acts 0 0 0 [zR 0] (wM v pa sn tx ty si fl wi th ap nt rr rq rb wh md na nd up lo us lw) (zD (none) (wM v (actP v sn pa) (if sn = 8 then 8 else sn + 1) tx ty si fl wi th ap nt rr rq rb wh md na nd up lo us lw)) := by
  refine z_introF (ls := [(0, _)]) (by decide +kernel) rfl (fun _ _ => rfl) (fun _ _ => Nat.le_of_ble_eq_true rfl) ?_
  refine wa_aload_n (pc' := 1) dX10_acts_0 rfl rfl rfl ?_
  refine wa_getfield (pc' := 4) (j := 2) zc_X10 lk_X10_49 dX10_acts_1 rfl (by decide) rfl rfl ?_
  refine wa_bipush (pc' := 6) dX10_acts_4 rfl rfl ?_
  refine wa_icmp_ne (tgt := 50) (pc' := 9) dX10_acts_6 (by decide) rfl (by omega) (by omega) (fun c6 => ?_) (fun c6 => ?_)
  · refine wa_iconst (pc' := 51) dX10_acts_50 rfl ?_
    refine wa_istore_n (pc' := 52) (ls' := [(1, _), (0, _)]) dX10_acts_51 rfl rfl (by decide) rfl ?_
    rw [if_neg (by omega)]
    exact l_acts2 _ _ _ _ _ _ _ _ _ _ _ _ _ _ _ _ _ _ _ _ _ (by omega) (actP v sn pa) 620 0 pa (by omega) (by omega) (actP_n v pa (by omega))
  · subst c6
    refine wa_iconst (pc' := 10) dX10_acts_9 rfl ?_
    refine wa_istore_n (pc' := 11) (ls' := [(1, _), (0, _)]) dX10_acts_10 rfl rfl (by decide) rfl ?_
    rw [if_pos rfl]
    exact l_acts1 _ _ _ _ _ _ _ _ _ _ _ _ _ _ _ _ _ _ _ _ (actP v 8 pa) 4340 0 pa (by omega) (by omega) (actP_7 v pa)

set_option maxRecDepth 10000 in
set_option maxHeartbeats 1000000 in
theorem l_undo (pa : Int → Int) (sn : Int) (tx : Int → Int) (ty si fl wi th ap nt rr rq rb wh : Int) (md na : Int → Int) (nd : Int) (up lo : Int → Int) (us lw : Int) (hsn : 0 ≤ sn ∧ sn < 8) (R : Int → Int) : ∀ (m : Nat) (k : Int) (f : Int → Int), 0 ≤ k → k + m = 620 → cpyR 0 (fun j => pa (620 * sn + j)) m k f = R → Wa q_X10_undo 1 0 0 10 (zD (some (zI sn)) (wM R pa sn tx ty si fl wi th ap nt rr rq rb wh md na nd up lo us lw)) 30 [(1, zI k), (0, zR 0)] [] (wM f pa sn tx ty si fl wi th ap nt rr rq rb wh md na nd up lo us lw) 0 0 := by
  intro m
  induction m with
  | zero =>
    intro k f h0 hm hR
    subst hR
    refine wa_iload_n (pc' := 31) dX10_undo_30 rfl rfl rfl ?_
    refine wa_sipush (pc' := 34) dX10_undo_31 rfl rfl ?_
    refine wa_icmp_ge (tgt := 64) (pc' := 37) dX10_undo_34 (by decide) rfl (by omega) (by omega) (fun c34 => ?_) (fun c34 => ?_)
    · refine wa_aload_n (pc' := 65) dX10_undo_64 rfl rfl rfl ?_
      refine wa_getfield (pc' := 68) (j := 2) zc_X10 lk_X10_49 dX10_undo_65 rfl (by decide) rfl rfl ?_
      refine wa_iret dX10_undo_68 rfl (by decide) (by decide) ?_
      exact zD_i rfl rfl
    · exact absurd c34 (by omega)
  | succ m ih =>
    intro k f h0 hm hR
    rw [cpyR, Int.zero_add] at hR
    refine wa_iload_n (pc' := 31) dX10_undo_30 rfl rfl rfl ?_
    refine wa_sipush (pc' := 34) dX10_undo_31 rfl rfl ?_
    refine wa_icmp_ge (tgt := 64) (pc' := 37) dX10_undo_34 (by decide) rfl (by omega) (by omega) (fun c34 => ?_) (fun c34 => ?_)
    · exact absurd c34 (by omega)
    · refine wa_aload_n (pc' := 38) dX10_undo_37 rfl rfl rfl ?_
      refine wa_getfield (pc' := 41) (j := 0) zc_X10 lk_X10_7 dX10_undo_38 rfl (by decide) rfl rfl ?_
      refine wa_iload_n (pc' := 42) dX10_undo_41 rfl rfl rfl ?_
      refine wa_aload_n (pc' := 43) dX10_undo_42 rfl rfl rfl ?_
      refine wa_getfield (pc' := 46) (j := 1) zc_X10 lk_X10_13 dX10_undo_43 rfl (by decide) rfl rfl ?_
      refine wa_sipush (pc' := 49) dX10_undo_46 rfl rfl ?_
      refine wa_aload_n (pc' := 50) dX10_undo_49 rfl rfl rfl ?_
      refine wa_getfield (pc' := 53) (j := 2) zc_X10 lk_X10_49 dX10_undo_50 rfl (by decide) rfl rfl ?_
      refine wa_imul (pc' := 54) dX10_undo_53 rfl ?_
      refine wa_iload_n (pc' := 55) dX10_undo_54 rfl rfl rfl ?_
      refine wa_iadd (pc' := 56) dX10_undo_55 rfl ?_
      refine wa_iaload (pc' := 57) dX10_undo_56 rfl rfl (by omega) (by omega) (by decide) ?_
      refine wa_iastore (pc' := 58) (w' := [_, zA _ _ _, _, _, _, _, _, _, _, _]) dX10_undo_57 rfl rfl (by omega) (by omega) (by decide) rfl ?_
      refine wa_iinc (pc' := 61) (ls' := [(1, _), (0, _)]) dX10_undo_58 rfl rfl (by decide) rfl ?_
      refine wa_goto (pc' := 30) dX10_undo_61 (by decide) ?_
      exact ih (k + 1) _ (by omega) (by omega) hR

theorem undP_e (pa : Int → Int) (sn : Int) (v : Int → Int) : cpyR 0 (fun j => pa (620 * sn + j)) 620 0 v = undP pa sn v := by
  rw [cpyR_e]
  funext j
  unfold undP
  by_cases h : 0 ≤ j ∧ j < 620
  · rw [if_pos h, if_pos (by omega)]
    show pa (620 * sn + (j - 0)) = _
    rw [Int.sub_zero]
  · rw [if_neg h, if_neg (by omega)]
set_option maxRecDepth 10000 in
set_option maxHeartbeats 1000000 in
theorem k_X10_undo (v pa : Int → Int) (sn : Int) (tx : Int → Int) (ty si fl wi th ap nt rr rq rb wh : Int) (md na : Int → Int) (nd : Int) (up lo : Int → Int) (us lw : Int)  (hsn : 0 ≤ sn ∧ sn ≤ 8) : zMet q_X10_undo 1 0 0 [zR 0] (wM v pa sn tx ty si fl wi th ap nt rr rq rb wh md na nd up lo us lw) (zD (some (zI (if sn = 0 then 0 else sn - 1))) (wM (if sn = 0 then v else undP pa (sn - 1) v) pa (if sn = 0 then sn else sn - 1) tx ty si fl wi (if sn = 0 then 1 else 0) ap nt rr rq rb wh md na nd up lo us lw)) := by
  refine z_introF (ls := [(0, _)]) (by decide +kernel) rfl (fun _ _ => rfl) (fun _ _ => Nat.le_of_ble_eq_true rfl) ?_
  refine wa_aload_n (pc' := 1) dX10_undo_0 rfl rfl rfl ?_
  refine wa_iconst (pc' := 2) dX10_undo_1 rfl ?_
  refine wa_putfield (pc' := 5) (j := 8) (w' := [zO _ [_, _, _, _, _, _, _, _, _, _, _, _, _, _, _, _, _, _, _, _, _, _, _, _], _, _, _, _, _, _, _, _, _]) zc_X10 lk_X10_46 dX10_undo_2 rfl (by decide) rfl rfl (Nat.le_of_ble_eq_true rfl) True.intro rfl ?_
  refine wa_aload_n (pc' := 6) dX10_undo_5 rfl rfl rfl ?_
  refine wa_getfield (pc' := 9) (j := 2) zc_X10 lk_X10_49 dX10_undo_6 rfl (by decide) rfl rfl ?_
  refine wa_if_ne (tgt := 18) (pc' := 12) dX10_undo_9 (by decide) rfl (by omega) (fun c9 => ?_) (fun c9 => ?_)
  · refine wa_aload_n (pc' := 19) dX10_undo_18 rfl rfl rfl ?_
    refine wa_dup (pc' := 20) dX10_undo_19 rfl rfl ?_
    refine wa_getfield (pc' := 23) (j := 2) zc_X10 lk_X10_49 dX10_undo_20 rfl (by decide) rfl rfl ?_
    refine wa_iconst (pc' := 24) dX10_undo_23 rfl ?_
    refine wa_isub (pc' := 25) dX10_undo_24 rfl ?_
    refine wa_putfield (pc' := 28) (j := 2) (w' := [zO _ [_, _, _, _, _, _, _, _, _, _, _, _, _, _, _, _, _, _, _, _, _, _, _, _], _, _, _, _, _, _, _, _, _]) zc_X10 lk_X10_49 dX10_undo_25 rfl (by decide) rfl rfl (Nat.le_of_ble_eq_true rfl) True.intro rfl ?_
    refine wa_iconst (pc' := 29) dX10_undo_28 rfl ?_
    refine wa_istore_n (pc' := 30) (ls' := [(1, _), (0, _)]) dX10_undo_29 rfl rfl (by decide) rfl ?_
    rw [if_neg (by omega), if_neg (by omega), if_neg (by omega), if_neg (by omega)]
    exact l_undo _ _ _ _ _ _ _ _ _ _ _ _ _ _ _ _ _ _ _ _ _ (by omega) _ 620 0 _ (by omega) (by omega) (undP_e _ _ _)
  · refine wa_aload_n (pc' := 13) dX10_undo_12 rfl rfl rfl ?_
    refine wa_iconst (pc' := 14) dX10_undo_13 rfl ?_
    refine wa_iD2 (pc' := 17) (st := []) (k_X10_fails _ _ _ _ _ _ _ _ _ _ _ _ _ _ _ _ _ _ _ _ _ _ _ ) ok_X10_fails lm_X10_101 dX10_undo_14 rfl (wM_ok _ _ _ _ _ _ _ _ _ _ _ _ _ _ _ _ _ _ _ _ _ _) (Eq.refl 10) (wM_ok _ _ _ _ _ _ _ _ _ _ _ _ _ _ _ _ _ _ _ _ _ _) rfl rfl (Nat.le_of_ble_eq_true rfl) rfl rfl rfl rfl (by decide) (Nat.le_of_ble_eq_true rfl) rfl (by decide) (by decide) rfl rfl ?_
    show Wa _ _ _ _ _ _ _ _ [_] _ _ _
    refine wa_iret dX10_undo_17 rfl (by decide) (by decide) ?_
    exact zD_i (by (repeat (first | rw [if_pos (by omega)] | rw [if_neg (by omega)])) <;> rfl) (by (repeat (first | rw [if_pos (by omega)] | rw [if_neg (by omega)])) <;> rfl)

set_option maxRecDepth 10000 in
set_option maxHeartbeats 1000000 in
theorem l_opens (pa : Int → Int) (sn : Int) (tx : Int → Int) (ty si fl wi th ap nt rr rq rb wh : Int) (md na : Int → Int) (nd : Int) (up lo : Int → Int) (us lw : Int) (i : Int) (hi : 0 ≤ i ∧ i < 40) (R : Int → Int) : ∀ (m : Nat) (k : Int) (f : Int → Int), k = 214 + 5 * i + m → k < 620 → opR m k f = R → Wa q_X10_opens 1 0 0 10 (zD none (wM ((zup R 1 (R 1 + 1))) pa sn tx ty si fl wi th ap nt rr rq rb wh md na nd up lo us lw)) 14 [(2, zI k), (0, zR 0), (1, zI i)] [] (wM f pa sn tx ty si fl wi th ap nt rr rq rb wh md na nd up lo us lw) 0 0 := by
  intro m
  induction m with
  | zero =>
    intro k f h0 hm hR
    subst hR
    refine wa_iload_n (pc' := 15) dX10_opens_14 rfl rfl rfl ?_
    refine wa_iload_n (pc' := 16) dX10_opens_15 rfl rfl rfl ?_
    refine wa_dS (pc' := 19) (w' := [_, _, _, _, _, _, _, _, _, _]) (k_X10_chord i (by omega)) ok_X10_chord lm_X10_94 dX10_opens_16 rfl [] rfl (by decide) rfl rfl (by decide) (Nat.le_of_ble_eq_true rfl) rfl (by decide) (by decide) rfl rfl rfl ?_
    refine wa_iconst (pc' := 20) dX10_opens_19 rfl ?_
    refine wa_iadd (pc' := 21) dX10_opens_20 rfl ?_
    refine wa_icmp_lt (tgt := 44) (pc' := 24) dX10_opens_21 (by decide) rfl (by omega) (by omega) (fun c21 => ?_) (fun c21 => ?_)
    · refine wa_aload_n (pc' := 45) dX10_opens_44 rfl rfl rfl ?_
      refine wa_getfield (pc' := 48) (j := 0) zc_X10 lk_X10_7 dX10_opens_45 rfl (by decide) rfl rfl ?_
      refine wa_iconst (pc' := 49) dX10_opens_48 rfl ?_
      refine wa_dup2 (pc' := 50) dX10_opens_49 rfl rfl rfl ?_
      refine wa_iaload (pc' := 51) dX10_opens_50 rfl rfl (by omega) (by omega) (by decide) ?_
      refine wa_iconst (pc' := 52) dX10_opens_51 rfl ?_
      refine wa_iadd (pc' := 53) dX10_opens_52 rfl ?_
      refine wa_iastore (pc' := 54) (w' := [_, zA _ _ _, _, _, _, _, _, _, _, _]) dX10_opens_53 rfl rfl (by omega) (by omega) (by decide) rfl ?_
      refine wa_vret dX10_opens_54 rfl (by decide) (by decide) ?_
      exact zD_i rfl rfl
    · exact absurd c21 (by omega)
  | succ m ih =>
    intro k f h0 hm hR
    refine wa_iload_n (pc' := 15) dX10_opens_14 rfl rfl rfl ?_
    refine wa_iload_n (pc' := 16) dX10_opens_15 rfl rfl rfl ?_
    refine wa_dS (pc' := 19) (w' := [_, _, _, _, _, _, _, _, _, _]) (k_X10_chord i (by omega)) ok_X10_chord lm_X10_94 dX10_opens_16 rfl [] rfl (by decide) rfl rfl (by decide) (Nat.le_of_ble_eq_true rfl) rfl (by decide) (by decide) rfl rfl rfl ?_
    refine wa_iconst (pc' := 20) dX10_opens_19 rfl ?_
    refine wa_iadd (pc' := 21) dX10_opens_20 rfl ?_
    refine wa_icmp_lt (tgt := 44) (pc' := 24) dX10_opens_21 (by decide) rfl (by omega) (by omega) (fun c21 => ?_) (fun c21 => ?_)
    · exact absurd c21 (by omega)
    · refine wa_aload_n (pc' := 25) dX10_opens_24 rfl rfl rfl ?_
      refine wa_getfield (pc' := 28) (j := 0) zc_X10 lk_X10_7 dX10_opens_25 rfl (by decide) rfl rfl ?_
      refine wa_iload_n (pc' := 29) dX10_opens_28 rfl rfl rfl ?_
      refine wa_aload_n (pc' := 30) dX10_opens_29 rfl rfl rfl ?_
      refine wa_getfield (pc' := 33) (j := 0) zc_X10 lk_X10_7 dX10_opens_30 rfl (by decide) rfl rfl ?_
      refine wa_iload_n (pc' := 34) dX10_opens_33 rfl rfl rfl ?_
      refine wa_iconst (pc' := 35) dX10_opens_34 rfl ?_
      refine wa_isub (pc' := 36) dX10_opens_35 rfl ?_
      refine wa_iaload (pc' := 37) dX10_opens_36 rfl rfl (by omega) (by omega) (by decide) ?_
      refine wa_iastore (pc' := 38) (w' := [_, zA _ _ _, _, _, _, _, _, _, _, _]) dX10_opens_37 rfl rfl (by omega) (by omega) (by decide) rfl ?_
      refine wa_iinc (pc' := 41) (ls' := [(2, _), (0, _), (1, _)]) dX10_opens_38 rfl rfl (by decide) rfl ?_
      refine wa_goto (pc' := 14) dX10_opens_41 (by decide) ?_
      exact ih (k + -1) _ (by omega) (by omega) hR

set_option maxRecDepth 10000 in
set_option maxHeartbeats 1000000 in
theorem k_X10_opens (v pa : Int → Int) (sn : Int) (tx : Int → Int) (ty si fl wi th ap nt rr rq rb wh : Int) (md na : Int → Int) (nd : Int) (up lo : Int → Int) (us lw : Int) (i c : Int) (hc : v 1 = c) (hi : 0 ≤ i ∧ i ≤ c) (hc4 : c < 40) : zMet q_X10_opens 1 0 0 [zR 0, zI i] (wM v pa sn tx ty si fl wi th ap nt rr rq rb wh md na nd up lo us lw) (zD none (wM ((zup (opR (5 * (c - i)).toNat (210 + 5 * c + 5 - 1) v) 1 ((opR (5 * (c - i)).toNat (210 + 5 * c + 5 - 1) v) 1 + 1))) pa sn tx ty si fl wi th ap nt rr rq rb wh md na nd up lo us lw)) := by
  refine z_introF (ls := [(0, _), (1, _)]) (by decide +kernel) rfl (fun _ _ => rfl) (fun _ _ => Nat.le_of_ble_eq_true rfl) ?_
  refine wa_aload_n (pc' := 1) dX10_opens_0 rfl rfl rfl ?_
  refine wa_getfield (pc' := 4) (j := 0) zc_X10 lk_X10_7 dX10_opens_1 rfl (by decide) rfl rfl ?_
  refine wa_iconst (pc' := 5) dX10_opens_4 rfl ?_
  refine wa_iaload (pc' := 6) dX10_opens_5 rfl rfl (by omega) (by omega) (by decide) ?_
  rw [hc]
  refine wa_dS (pc' := 9) (w' := [_, _, _, _, _, _, _, _, _, _]) (k_X10_chord c (by omega)) ok_X10_chord lm_X10_94 dX10_opens_6 rfl [] rfl (by decide) rfl rfl (by decide) (Nat.le_of_ble_eq_true rfl) rfl (by decide) (by decide) rfl rfl rfl ?_
  refine wa_iconst (pc' := 10) dX10_opens_9 rfl ?_
  refine wa_iadd (pc' := 11) dX10_opens_10 rfl ?_
  refine wa_iconst (pc' := 12) dX10_opens_11 rfl ?_
  refine wa_isub (pc' := 13) dX10_opens_12 rfl ?_
  refine wa_istore_n (pc' := 14) (ls' := [(2, _), (0, _), (1, _)]) dX10_opens_13 rfl rfl (by decide) rfl ?_
  exact l_opens _ _ _ _ _ _ _ _ _ _ _ _ _ _ _ _ _ _ _ _ _ i (by omega) (opR (5 * (c - i)).toNat (210 + 5 * c + 5 - 1) v) (5 * (c - i)).toNat _ v (by omega) (by omega) rfl

set_option maxRecDepth 10000 in
set_option maxHeartbeats 1000000 in
theorem l_closes2 (pa : Int → Int) (sn : Int) (tx : Int → Int) (ty si fl wi th ap nt rr rq rb wh : Int) (md na : Int → Int) (nd : Int) (up lo : Int → Int) (us lw : Int) (i c1 : Int) (hc : 0 ≤ c1 ∧ c1 < 40) (R : Int → Int) : ∀ (m : Nat) (k : Int) (f : Int → Int), 0 ≤ k → k + m = 5 → f 1 = c1 → clZ c1 m k f = R → Wa q_X10_closes 1 0 0 10 (zD none (wM R pa sn tx ty si fl wi th ap nt rr rq rb wh md na nd up lo us lw)) 50 [(2, zI k), (0, zR 0), (1, zI i)] [] (wM f pa sn tx ty si fl wi th ap nt rr rq rb wh md na nd up lo us lw) 0 0 := by
  intro m
  induction m with
  | zero =>
    intro k f h0 hm hf hR
    subst hR
    refine wa_iload_n (pc' := 51) dX10_closes_50 rfl rfl rfl ?_
    refine wa_iconst (pc' := 52) dX10_closes_51 rfl ?_
    refine wa_icmp_ge (tgt := 78) (pc' := 55) dX10_closes_52 (by decide) rfl (by omega) (by omega) (fun c52 => ?_) (fun c52 => ?_)
    · refine wa_vret dX10_closes_78 rfl (by decide) (by decide) ?_
      exact zD_i rfl rfl
    · exact absurd c52 (by omega)
  | succ m ih =>
    intro k f h0 hm hf hR
    refine wa_iload_n (pc' := 51) dX10_closes_50 rfl rfl rfl ?_
    refine wa_iconst (pc' := 52) dX10_closes_51 rfl ?_
    refine wa_icmp_ge (tgt := 78) (pc' := 55) dX10_closes_52 (by decide) rfl (by omega) (by omega) (fun c52 => ?_) (fun c52 => ?_)
    · exact absurd c52 (by omega)
    · refine wa_aload_n (pc' := 56) dX10_closes_55 rfl rfl rfl ?_
      refine wa_getfield (pc' := 59) (j := 0) zc_X10 lk_X10_7 dX10_closes_56 rfl (by decide) rfl rfl ?_
      refine wa_aload_n (pc' := 60) dX10_closes_59 rfl rfl rfl ?_
      refine wa_getfield (pc' := 63) (j := 0) zc_X10 lk_X10_7 dX10_closes_60 rfl (by decide) rfl rfl ?_
      refine wa_iconst (pc' := 64) dX10_closes_63 rfl ?_
      refine wa_iaload (pc' := 65) dX10_closes_64 rfl rfl (by omega) (by omega) (by decide) ?_
      rw [hf]
      refine wa_dS (pc' := 68) (w' := [_, _, _, _, _, _, _, _, _, _]) (k_X10_chord c1 (by omega)) ok_X10_chord lm_X10_94 dX10_closes_65 rfl [] rfl (by decide) rfl rfl (by decide) (Nat.le_of_ble_eq_true rfl) rfl (by decide) (by decide) rfl rfl rfl ?_
      refine wa_iload_n (pc' := 69) dX10_closes_68 rfl rfl rfl ?_
      refine wa_iadd (pc' := 70) dX10_closes_69 rfl ?_
      refine wa_iconst (pc' := 71) dX10_closes_70 rfl ?_
      refine wa_iastore (pc' := 72) (w' := [_, zA _ _ _, _, _, _, _, _, _, _, _]) dX10_closes_71 rfl rfl (by omega) (by omega) (by decide) rfl ?_
      refine wa_iinc (pc' := 75) (ls' := [(2, _), (0, _), (1, _)]) dX10_closes_72 rfl rfl (by decide) rfl ?_
      refine wa_goto (pc' := 50) dX10_closes_75 (by decide) ?_
      exact ih (k + 1) _ (by omega) (by omega) ((zup9_ne (by omega)).trans hf) hR

set_option maxRecDepth 10000 in
set_option maxHeartbeats 1000000 in
theorem l_closes1 (pa : Int → Int) (sn : Int) (tx : Int → Int) (ty si fl wi th ap nt rr rq rb wh : Int) (md na : Int → Int) (nd : Int) (up lo : Int → Int) (us lw : Int) (i c1 : Int) (hc : 0 ≤ c1 ∧ c1 < 40) (R : Int → Int) : ∀ (m : Nat) (k : Int) (f : Int → Int), 210 ≤ k → k + m = 210 + 5 * c1 → f 1 = c1 → clZ c1 5 0 (clR m k f) = R → Wa q_X10_closes 1 0 0 10 (zD none (wM R pa sn tx ty si fl wi th ap nt rr rq rb wh md na nd up lo us lw)) 15 [(2, zI k), (0, zR 0), (1, zI i)] [] (wM f pa sn tx ty si fl wi th ap nt rr rq rb wh md na nd up lo us lw) 0 0 := by
  intro m
  induction m with
  | zero =>
    intro k f h0 hm hf hR
    refine wa_iload_n (pc' := 16) dX10_closes_15 rfl rfl rfl ?_
    refine wa_aload_n (pc' := 17) dX10_closes_16 rfl rfl rfl ?_
    refine wa_getfield (pc' := 20) (j := 0) zc_X10 lk_X10_7 dX10_closes_17 rfl (by decide) rfl rfl ?_
    refine wa_iconst (pc' := 21) dX10_closes_20 rfl ?_
    refine wa_iaload (pc' := 22) dX10_closes_21 rfl rfl (by omega) (by omega) (by decide) ?_
    rw [hf]
    refine wa_dS (pc' := 25) (w' := [_, _, _, _, _, _, _, _, _, _]) (k_X10_chord c1 (by omega)) ok_X10_chord lm_X10_94 dX10_closes_22 rfl [] rfl (by decide) rfl rfl (by decide) (Nat.le_of_ble_eq_true rfl) rfl (by decide) (by decide) rfl rfl rfl ?_
    refine wa_icmp_ge (tgt := 48) (pc' := 28) dX10_closes_25 (by decide) rfl (by omega) (by omega) (fun c25 => ?_) (fun c25 => ?_)
    · refine wa_iconst (pc' := 49) dX10_closes_48 rfl ?_
      refine wa_istore_n (pc' := 50) (ls' := [(2, _), (0, _), (1, _)]) dX10_closes_49 rfl rfl (by decide) rfl ?_
      exact l_closes2 _ _ _ _ _ _ _ _ _ _ _ _ _ _ _ _ _ _ _ _ _ i c1 hc R 5 0 _ (by omega) (by omega) hf hR
    · exact absurd c25 (by omega)
  | succ m ih =>
    intro k f h0 hm hf hR
    refine wa_iload_n (pc' := 16) dX10_closes_15 rfl rfl rfl ?_
    refine wa_aload_n (pc' := 17) dX10_closes_16 rfl rfl rfl ?_
    refine wa_getfield (pc' := 20) (j := 0) zc_X10 lk_X10_7 dX10_closes_17 rfl (by decide) rfl rfl ?_
    refine wa_iconst (pc' := 21) dX10_closes_20 rfl ?_
    refine wa_iaload (pc' := 22) dX10_closes_21 rfl rfl (by omega) (by omega) (by decide) ?_
    rw [hf]
    refine wa_dS (pc' := 25) (w' := [_, _, _, _, _, _, _, _, _, _]) (k_X10_chord c1 (by omega)) ok_X10_chord lm_X10_94 dX10_closes_22 rfl [] rfl (by decide) rfl rfl (by decide) (Nat.le_of_ble_eq_true rfl) rfl (by decide) (by decide) rfl rfl rfl ?_
    refine wa_icmp_ge (tgt := 48) (pc' := 28) dX10_closes_25 (by decide) rfl (by omega) (by omega) (fun c25 => ?_) (fun c25 => ?_)
    · exact absurd c25 (by omega)
    · refine wa_aload_n (pc' := 29) dX10_closes_28 rfl rfl rfl ?_
      refine wa_getfield (pc' := 32) (j := 0) zc_X10 lk_X10_7 dX10_closes_29 rfl (by decide) rfl rfl ?_
      refine wa_iload_n (pc' := 33) dX10_closes_32 rfl rfl rfl ?_
      refine wa_aload_n (pc' := 34) dX10_closes_33 rfl rfl rfl ?_
      refine wa_getfield (pc' := 37) (j := 0) zc_X10 lk_X10_7 dX10_closes_34 rfl (by decide) rfl rfl ?_
      refine wa_iload_n (pc' := 38) dX10_closes_37 rfl rfl rfl ?_
      refine wa_iconst (pc' := 39) dX10_closes_38 rfl ?_
      refine wa_iadd (pc' := 40) dX10_closes_39 rfl ?_
      refine wa_iaload (pc' := 41) dX10_closes_40 rfl rfl (by omega) (by omega) (by decide) ?_
      refine wa_iastore (pc' := 42) (w' := [_, zA _ _ _, _, _, _, _, _, _, _, _]) dX10_closes_41 rfl rfl (by omega) (by omega) (by decide) rfl ?_
      refine wa_iinc (pc' := 45) (ls' := [(2, _), (0, _), (1, _)]) dX10_closes_42 rfl rfl (by decide) rfl ?_
      refine wa_goto (pc' := 15) dX10_closes_45 (by decide) ?_
      exact ih (k + 1) _ (by omega) (by omega) ((zup9_ne (by omega)).trans hf) hR

set_option maxRecDepth 10000 in
set_option maxHeartbeats 1000000 in
theorem k_X10_closes (v pa : Int → Int) (sn : Int) (tx : Int → Int) (ty si fl wi th ap nt rr rq rb wh : Int) (md na : Int → Int) (nd : Int) (up lo : Int → Int) (us lw : Int) (i c : Int) (hc : v 1 = c) (hi : 0 ≤ i ∧ i < c) (hc4 : c ≤ 40) : zMet q_X10_closes 1 0 0 [zR 0, zI i] (wM v pa sn tx ty si fl wi th ap nt rr rq rb wh md na nd up lo us lw) (zD none (wM ((clZ (c - 1) 5 0 (clR (5 * (c - 1 - i)).toNat (210 + 5 * i) (zup v 1 (c - 1))))) pa sn tx ty si fl wi th ap nt rr rq rb wh md na nd up lo us lw)) := by
  refine z_introF (ls := [(0, _), (1, _)]) (by decide +kernel) rfl (fun _ _ => rfl) (fun _ _ => Nat.le_of_ble_eq_true rfl) ?_
  refine wa_aload_n (pc' := 1) dX10_closes_0 rfl rfl rfl ?_
  refine wa_getfield (pc' := 4) (j := 0) zc_X10 lk_X10_7 dX10_closes_1 rfl (by decide) rfl rfl ?_
  refine wa_iconst (pc' := 5) dX10_closes_4 rfl ?_
  refine wa_dup2 (pc' := 6) dX10_closes_5 rfl rfl rfl ?_
  refine wa_iaload (pc' := 7) dX10_closes_6 rfl rfl (by omega) (by omega) (by decide) ?_
  refine wa_iconst (pc' := 8) dX10_closes_7 rfl ?_
  refine wa_isub (pc' := 9) dX10_closes_8 rfl ?_
  rw [hc]
  refine wa_iastore (pc' := 10) (w' := [_, zA _ _ _, _, _, _, _, _, _, _, _]) dX10_closes_9 rfl rfl (by omega) (by omega) (by decide) rfl ?_
  refine wa_iload_n (pc' := 11) dX10_closes_10 rfl rfl rfl ?_
  refine wa_dS (pc' := 14) (w' := [_, _, _, _, _, _, _, _, _, _]) (k_X10_chord i (by omega)) ok_X10_chord lm_X10_94 dX10_closes_11 rfl [] rfl (by decide) rfl rfl (by decide) (Nat.le_of_ble_eq_true rfl) rfl (by decide) (by decide) rfl rfl rfl ?_
  refine wa_istore_n (pc' := 15) (ls' := [(2, _), (0, _), (1, _)]) dX10_closes_14 rfl rfl (by decide) rfl ?_
  exact l_closes1 _ _ _ _ _ _ _ _ _ _ _ _ _ _ _ _ _ _ _ _ _ i (c - 1) (by omega) _ (5 * (c - 1 - i)).toNat (210 + 5 * i) _ (by omega) (by omega) zup9_eq rfl

set_option maxRecDepth 10000 in
set_option maxHeartbeats 1000000 in
theorem k_X10_puts (v pa : Int → Int) (sn : Int) (tx : Int → Int) (ty si fl wi th ap nt rr rq rb wh : Int) (md na : Int → Int) (nd : Int) (up lo : Int → Int) (us lw : Int) (c : Int) (hc : 210 ≤ c ∧ c ≤ 500) : zMet q_X10_puts 0 0 0 [zR 0, zI c] (wM v pa sn tx ty si fl wi th ap nt rr rq rb wh md na nd up lo us lw) (zD (none) (wM (zup (zup (zup v (c + 2) rr) (c + 3) rq) (c + 4) rb) pa sn tx 0 si fl wi th ap nt rr rq rb wh md na nd up lo us lw)) := by
  refine z_introF (ls := [(0, _), (1, _)]) (by decide +kernel) rfl (fun _ _ => rfl) (fun _ _ => Nat.le_of_ble_eq_true rfl) ?_
  refine wa_aload_n (pc' := 1) dX10_puts_0 rfl rfl rfl ?_
  refine wa_getfield (pc' := 4) (j := 0) zc_X10 lk_X10_7 dX10_puts_1 rfl (by decide) rfl rfl ?_
  refine wa_iload_n (pc' := 5) dX10_puts_4 rfl rfl rfl ?_
  refine wa_iconst (pc' := 6) dX10_puts_5 rfl ?_
  refine wa_iadd (pc' := 7) dX10_puts_6 rfl ?_
  refine wa_aload_n (pc' := 8) dX10_puts_7 rfl rfl rfl ?_
  refine wa_getfield (pc' := 11) (j := 13) zc_X10 lk_X10_78 dX10_puts_8 rfl (by decide) rfl rfl ?_
  refine wa_iastore (pc' := 12) (w' := [_, zA _ _ _, _, _, _, _, _, _, _, _]) dX10_puts_11 rfl rfl (by omega) (by omega) (by decide) rfl ?_
  refine wa_aload_n (pc' := 13) dX10_puts_12 rfl rfl rfl ?_
  refine wa_getfield (pc' := 16) (j := 0) zc_X10 lk_X10_7 dX10_puts_13 rfl (by decide) rfl rfl ?_
  refine wa_iload_n (pc' := 17) dX10_puts_16 rfl rfl rfl ?_
  refine wa_iconst (pc' := 18) dX10_puts_17 rfl ?_
  refine wa_iadd (pc' := 19) dX10_puts_18 rfl ?_
  refine wa_aload_n (pc' := 20) dX10_puts_19 rfl rfl rfl ?_
  refine wa_getfield (pc' := 23) (j := 14) zc_X10 lk_X10_87 dX10_puts_20 rfl (by decide) rfl rfl ?_
  refine wa_iastore (pc' := 24) (w' := [_, zA _ _ _, _, _, _, _, _, _, _, _]) dX10_puts_23 rfl rfl (by omega) (by omega) (by decide) rfl ?_
  refine wa_aload_n (pc' := 25) dX10_puts_24 rfl rfl rfl ?_
  refine wa_getfield (pc' := 28) (j := 0) zc_X10 lk_X10_7 dX10_puts_25 rfl (by decide) rfl rfl ?_
  refine wa_iload_n (pc' := 29) dX10_puts_28 rfl rfl rfl ?_
  refine wa_iconst (pc' := 30) dX10_puts_29 rfl ?_
  refine wa_iadd (pc' := 31) dX10_puts_30 rfl ?_
  refine wa_aload_n (pc' := 32) dX10_puts_31 rfl rfl rfl ?_
  refine wa_getfield (pc' := 35) (j := 15) zc_X10 lk_X10_81 dX10_puts_32 rfl (by decide) rfl rfl ?_
  refine wa_iastore (pc' := 36) (w' := [_, zA _ _ _, _, _, _, _, _, _, _, _]) dX10_puts_35 rfl rfl (by omega) (by omega) (by decide) rfl ?_
  refine wa_aload_n (pc' := 37) dX10_puts_36 rfl rfl rfl ?_
  refine wa_iconst (pc' := 38) dX10_puts_37 rfl ?_
  refine wa_putfield (pc' := 41) (j := 4) (w' := [zO _ [_, _, _, _, _, _, _, _, _, _, _, _, _, _, _, _, _, _, _, _, _, _, _, _], _, _, _, _, _, _, _, _, _]) zc_X10 lk_X10_56 dX10_puts_38 rfl (by decide) rfl rfl (Nat.le_of_ble_eq_true rfl) True.intro rfl ?_
  refine wa_vret dX10_puts_41 rfl (by decide) (by decide) ?_
  first | exact zD_i rfl rfl | exact zD_i (by rw [if_pos (by omega)]) rfl | exact zD_i (by rw [if_neg (by omega)]) rfl

def ctoR (F : Int → Int) (l k : Int) : Nat → Int → Int → Int
  | 0, _, n => n
  | m + 1, i, n => ctoR F l k m (i + 1) (n + upT F i l k)
theorem ctoR_0 (F : Int → Int) (l k : Int) : ∀ (m : Nat) (i n : Int), (∀ j : Int, i ≤ j → j < i + m → upT F j l k = 0) → ctoR F l k m i n = n
  | 0, _, _, _ => rfl
  | m + 1, i, n, h => by
    rw [ctoR, h i (by omega) (by omega), ctoR_0 F l k m (i + 1) (n + 0) (fun j h1 h2 => h j (by omega) (by omega)), Int.add_zero]
/-- sorted chords: all that come first are counted, and no other -/
theorem ctoR_e (F : Int → Int) (l k : Int) : ∀ (m : Nat) (i : Int), (∀ a b : Int, i ≤ a → a < b → b < i + m → F (a * 5 + 0) < F (b * 5 + 0) ∨ (F (a * 5 + 0) = F (b * 5 + 0) ∧ F (a * 5 + 1) ≤ F (b * 5 + 1))) → ctoR F l k m i i = cUT F l k m i
  | 0, _, _ => rfl
  | m + 1, i, h => by
    rw [ctoR, cUT]
    by_cases h1 : F (i * 5 + 0) < l ∨ (F (i * 5 + 0) = l ∧ F (i * 5 + 1) ≤ k)
    · rw [if_pos h1, upT, if_pos h1]
      exact ctoR_e F l k m (i + 1) (fun a b ha hab hb => h a b (by omega) hab (by omega))
    · rw [if_neg h1, upT, if_neg h1, Int.add_zero]
      apply ctoR_0
      intro j hj1 hj2
      have h2 := h i j (by omega) (by omega) (by omega)
      rw [upT, if_neg (by omega)]
set_option maxRecDepth 10000 in
set_option maxHeartbeats 1000000 in
theorem l_comesTo (s : zSh) (v pa : Int → Int) (sn : Int) (tx : Int → Int) (ty si fl wi th ap nt rr rq rb wh : Int) (md na : Int → Int) (nd : Int) (up lo : Int → Int) (us lw : Int) (l k : Int) (hs : okW s) (hv : Vr s v) (hl : zin l) (hk : zin k) (R : Int) : ∀ (m : Nat) (i n : Int), 0 ≤ i → i + m = s.2.2.2.2.1 → ctoR s.2.2.1 l k m i n = R → Wa q_X10_comesTo 1 0 0 10 (zD (some (zI R)) (wM v pa sn tx ty si fl wi th ap nt rr rq rb wh md na nd up lo us lw)) 5 [(4, zI i), (3, zI n), (0, zR 0), (1, zI l), (2, zI k)] [] (wM v pa sn tx ty si fl wi th ap nt rr rq rb wh md na nd up lo us lw) 0 0 := by
  obtain ⟨v0, v1, v2, v3, vT, vF, vL⟩ := id hv
  have hz := hs.1
  obtain ⟨z1, z2, zT1, z4, zF1, zL1⟩ := id hz.1
  have zNm := hz.2.1
  have zg := hz.2.2.1
  have zm := hz.2.2.2.1
  have zln := hz.2.2.2.2
  have vS := Vr_sg hv zm
  have zQ1 := fun i h1 h2 => (zNm i h1 h2).2.1
  intro m
  induction m with
  | zero =>
    intro i n h0 hm hR
    refine wa_iload (pc' := 7) dX10_comesTo_5 rfl rfl ?_
    refine wa_aload_n (pc' := 8) dX10_comesTo_7 rfl rfl rfl ?_
    refine wa_getfield (pc' := 11) (j := 0) zc_X10 lk_X10_7 dX10_comesTo_8 rfl (by decide) rfl rfl ?_
    refine wa_iconst (pc' := 12) dX10_comesTo_11 rfl ?_
    refine wa_iaload (pc' := 13) dX10_comesTo_12 rfl rfl (by omega) (by omega) (by decide) ?_
    refine wa_icmp_ge (tgt := 72) (pc' := 16) dX10_comesTo_13 (by decide) rfl (by omega) (by omega) (fun c13 => ?_) (fun c13 => ?_)
    · refine wa_iload_n (pc' := 73) dX10_comesTo_72 rfl rfl rfl ?_
      refine wa_iret dX10_comesTo_73 rfl (by decide) (by decide) ?_
      exact zD_i (by rw [← hR]; rfl) rfl
    · exact absurd c13 (by omega)
  | succ m ih =>
    intro i n h0 hm hR
    have f0 := Vr_F hv (i := i) (f := 0) (by omega) (by omega)
    have f1 := Vr_F hv (i := i) (f := 1) (by omega) (by omega)
    have b0 := zF1 (i * 5 + 0) (by omega) (by omega)
    have b1 := zF1 (i * 5 + 1) (by omega) (by omega)
    rw [ctoR, upT] at hR
    refine wa_iload (pc' := 7) dX10_comesTo_5 rfl rfl ?_
    refine wa_aload_n (pc' := 8) dX10_comesTo_7 rfl rfl rfl ?_
    refine wa_getfield (pc' := 11) (j := 0) zc_X10 lk_X10_7 dX10_comesTo_8 rfl (by decide) rfl rfl ?_
    refine wa_iconst (pc' := 12) dX10_comesTo_11 rfl ?_
    refine wa_iaload (pc' := 13) dX10_comesTo_12 rfl rfl (by omega) (by omega) (by decide) ?_
    refine wa_icmp_ge (tgt := 72) (pc' := 16) dX10_comesTo_13 (by decide) rfl (by omega) (by omega) (fun c13 => ?_) (fun c13 => ?_)
    · exact absurd c13 (by omega)
    · refine wa_aload_n (pc' := 17) dX10_comesTo_16 rfl rfl rfl ?_
      refine wa_getfield (pc' := 20) (j := 0) zc_X10 lk_X10_7 dX10_comesTo_17 rfl (by decide) rfl rfl ?_
      refine wa_iload (pc' := 22) dX10_comesTo_20 rfl rfl ?_
      refine wa_dS (pc' := 25) (w' := [_, _, _, _, _, _, _, _, _, _]) (k_X10_chord i (by omega)) ok_X10_chord lm_X10_94 dX10_comesTo_22 rfl [] rfl (by decide) rfl rfl (by decide) (Nat.le_of_ble_eq_true rfl) rfl (by decide) (by decide) rfl rfl rfl ?_
      refine wa_iconst (pc' := 26) dX10_comesTo_25 rfl ?_
      refine wa_iadd (pc' := 27) dX10_comesTo_26 rfl ?_
      refine wa_iaload (pc' := 28) dX10_comesTo_27 rfl rfl (by omega) (by omega) (by decide) ?_
      rw [f0]
      refine wa_istore (pc' := 30) (ls' := [(5, _), (4, _), (3, _), (0, _), (1, _), (2, _)]) dX10_comesTo_28 rfl (by decide) rfl ?_
      refine wa_iload_n (pc' := 31) dX10_comesTo_30 rfl rfl rfl ?_
      refine wa_join (J := 64) (P := fun x => x = 1 ∧ (s.2.2.1 (i * 5 + 0) < l ∨ (s.2.2.1 (i * 5 + 0) = l ∧ s.2.2.1 (i * 5 + 1) ≤ k)) ∨ x = 0 ∧ ¬ (s.2.2.1 (i * 5 + 0) < l ∨ (s.2.2.1 (i * 5 + 0) = l ∧ s.2.2.1 (i * 5 + 1) ≤ k))) (fun x64 e64 => ?_) (fun K64 => ?_)
      · refine wa_iadd (pc' := 65) dX10_comesTo_64 rfl ?_
        refine wa_istore_n (pc' := 66) (ls' := [(3, _), (5, _), (4, _), (0, _), (1, _), (2, _)]) dX10_comesTo_65 rfl rfl (by decide) rfl ?_
        refine wa_iinc (pc' := 69) (ls' := [(4, _), (3, _), (5, _), (0, _), (1, _), (2, _)]) dX10_comesTo_66 rfl rfl (by decide) rfl ?_
        refine wa_goto (pc' := 5) dX10_comesTo_69 (by decide) ?_
        refine wa_sub [0, 1, 3, 4, 5] rfl ?_
        refine ih (i + 1) (n + x64) (by omega) (by omega) ?_
        rcases e64 with ⟨e, h9⟩ | ⟨e, h9⟩
        · rw [if_pos h9] at hR; rw [e]; exact hR
        · rw [if_neg h9] at hR; rw [e]; exact hR
      · refine wa_iload (pc' := 33) dX10_comesTo_31 rfl rfl ?_
        refine wa_iload_n (pc' := 34) dX10_comesTo_33 rfl rfl rfl ?_
        refine wa_icmp_lt (tgt := 59) (pc' := 37) dX10_comesTo_34 (by decide) rfl (by omega) (by omega) (fun c34 => ?_) (fun c34 => ?_)
        · refine wa_iconst (pc' := 60) dX10_comesTo_59 rfl ?_
          refine wa_goto (pc' := 64) dX10_comesTo_60 (by decide) ?_
          exact K64 _ (by show _ ∨ _; omega)
        · refine wa_iload (pc' := 39) dX10_comesTo_37 rfl rfl ?_
          refine wa_iload_n (pc' := 40) dX10_comesTo_39 rfl rfl rfl ?_
          refine wa_icmp_ne (tgt := 63) (pc' := 43) dX10_comesTo_40 (by decide) rfl (by omega) (by omega) (fun c40 => ?_) (fun c40 => ?_)
          · refine wa_iconst (pc' := 64) dX10_comesTo_63 rfl ?_
            exact K64 _ (by show _ ∨ _; omega)
          · refine wa_aload_n (pc' := 44) dX10_comesTo_43 rfl rfl rfl ?_
            refine wa_getfield (pc' := 47) (j := 0) zc_X10 lk_X10_7 dX10_comesTo_44 rfl (by decide) rfl rfl ?_
            refine wa_iload (pc' := 49) dX10_comesTo_47 rfl rfl ?_
            refine wa_dS (pc' := 52) (w' := [_, _, _, _, _, _, _, _, _, _]) (k_X10_chord i (by omega)) ok_X10_chord lm_X10_94 dX10_comesTo_49 rfl [] rfl (by decide) rfl rfl (by decide) (Nat.le_of_ble_eq_true rfl) rfl (by decide) (by decide) rfl rfl rfl ?_
            refine wa_iconst (pc' := 53) dX10_comesTo_52 rfl ?_
            refine wa_iadd (pc' := 54) dX10_comesTo_53 rfl ?_
            refine wa_iaload (pc' := 55) dX10_comesTo_54 rfl rfl (by omega) (by omega) (by decide) ?_
            rw [f1]
            refine wa_iload_n (pc' := 56) dX10_comesTo_55 rfl rfl rfl ?_
            refine wa_icmp_gt (tgt := 63) (pc' := 59) dX10_comesTo_56 (by decide) rfl (by omega) (by omega) (fun c56 => ?_) (fun c56 => ?_)
            · refine wa_iconst (pc' := 64) dX10_comesTo_63 rfl ?_
              exact K64 _ (by show _ ∨ _; omega)
            · refine wa_iconst (pc' := 60) dX10_comesTo_59 rfl ?_
              refine wa_goto (pc' := 64) dX10_comesTo_60 (by decide) ?_
              exact K64 _ (by show _ ∨ _; omega)

set_option maxRecDepth 10000 in
set_option maxHeartbeats 1000000 in
theorem k_X10_comesTo (s : zSh) (v pa : Int → Int) (sn : Int) (tx : Int → Int) (ty si fl wi th ap nt rr rq rb wh : Int) (md na : Int → Int) (nd : Int) (up lo : Int → Int) (us lw : Int) (l : Int) (k : Int) (hs : okW s) (hv : Vr s v) (hl : zin l) (hk : zin k) : zMet q_X10_comesTo 1 0 0 [zR 0, zI l, zI k] (wM v pa sn tx ty si fl wi th ap nt rr rq rb wh md na nd up lo us lw) (zD (some (zI (cUT s.2.2.1 l k s.2.2.2.2.1.toNat 0))) (wM v pa sn tx ty si fl wi th ap nt rr rq rb wh md na nd up lo us lw)) := by
  refine z_introF (ls := [(0, _), (1, _), (2, _)]) (by decide +kernel) rfl (fun _ _ => rfl) (fun _ _ => Nat.le_of_ble_eq_true rfl) ?_
  obtain ⟨v0, v1, v2, v3, vT, vF, vL⟩ := id hv
  have hz := hs.1
  obtain ⟨z1, z2, zT1, z4, zF1, zL1⟩ := id hz.1
  have zNm := hz.2.1
  have zg := hz.2.2.1
  have zm := hz.2.2.2.1
  have zln := hz.2.2.2.2
  have vS := Vr_sg hv zm
  have zQ1 := fun i h1 h2 => (zNm i h1 h2).2.1
  refine wa_iconst (pc' := 1) dX10_comesTo_0 rfl ?_
  refine wa_istore_n (pc' := 2) (ls' := [(3, _), (0, _), (1, _), (2, _)]) dX10_comesTo_1 rfl rfl (by decide) rfl ?_
  refine wa_iconst (pc' := 3) dX10_comesTo_2 rfl ?_
  refine wa_istore (pc' := 5) (ls' := [(4, _), (3, _), (0, _), (1, _), (2, _)]) dX10_comesTo_3 rfl (by decide) rfl ?_
  exact l_comesTo s _ _ _ _ _ _ _ _ _ _ _ _ _ _ _ _ _ _ _ _ _ _ l k hs hv hl hk _ s.2.2.2.2.1.toNat 0 0 (by omega) (by omega) (ctoR_e _ _ _ _ _ (fun a b ha hab hb => hs.2.2.2.2 a b ha hab (by omega)))

