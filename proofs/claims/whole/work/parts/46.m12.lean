/-! the reference: lines laid -/
theorem isLt_1 {s : zSh} (hL : ∀ j : Int, 0 ≤ j → j < 200 → 0 ≤ s.1 j ∧ s.1 j < 65536) {l : Int} (h1 : 0 ≤ s.2.1 l) (h2 : s.2.1 (l + 1) ≤ 200) (j : Int) : isLt s l j = 1 ↔ (0 ≤ j ∧ j < s.2.1 (l + 1) - s.2.1 l) ∧ ¬ ltr s.1 s.2.1 l j = 32 := by
  unfold isLt ltr
  by_cases h : 0 ≤ j ∧ s.2.1 l + j < s.2.1 (l + 1)
  · rw [if_pos h]
    have := hL (s.2.1 l + j) (by omega) (by omega)
    split <;> omega
  · rw [if_neg h, if_pos (Or.inl rfl)]
    omega
/-- the chord at hand is the first that doesn't stand before the place -/
def ptr (s : zSh) (l k c : Int) : Prop := (∀ j : Int, 0 ≤ j → j < c → (s.2.2.1 (j * 5 + 0) < l ∨ (s.2.2.1 (j * 5 + 0) = l ∧ s.2.2.1 (j * 5 + 1) < k))) ∧ (∀ j : Int, c ≤ j → j < s.2.2.2.2.1 → ¬ (s.2.2.1 (j * 5 + 0) < l ∨ (s.2.2.1 (j * 5 + 0) = l ∧ s.2.2.1 (j * 5 + 1) < k)))
theorem plC_ptr {s : zSh} (hs : okW s) (f l k : Int) : ∀ (m : Nat) (y : zLy), y.2.2.1 = l → 0 ≤ y.2.2.2.2.2.1 → s.2.2.2.2.1 - y.2.2.2.2.2.1 ≤ m → (∀ j : Int, 0 ≤ j → j < y.2.2.2.2.2.1 → (s.2.2.1 (j * 5 + 0) < l ∨ (s.2.2.1 (j * 5 + 0) = l ∧ s.2.2.1 (j * 5 + 1) < k + 1))) → (∀ j : Int, y.2.2.2.2.2.1 ≤ j → j < s.2.2.2.2.1 → ¬ (s.2.2.1 (j * 5 + 0) < l ∨ (s.2.2.1 (j * 5 + 0) = l ∧ s.2.2.1 (j * 5 + 1) < k))) → ptr s l (k + 1) (plC s k f m y).2.2.2.2.2.1
  | 0, y, hln, h0, hm, h1, h2 => ⟨h1, fun j j0 j1 => by have : (plC s k f 0 y).2.2.2.2.2.1 = y.2.2.2.2.2.1 := rfl; omega⟩
  | m + 1, y, hln, h0, hm, h1, h2 => by
    rw [plC]
    by_cases hc : y.2.2.2.2.2.1 < s.2.2.2.2.1 ∧ s.2.2.1 (y.2.2.2.2.2.1 * 5 + 0) = y.2.2.1 ∧ s.2.2.1 (y.2.2.2.2.2.1 * 5 + 1) = k
    · rw [if_pos hc]
      refine plC_ptr hs f l k m (plO s f y) hln (by show 0 ≤ y.2.2.2.2.2.1 + 1; omega) (by show s.2.2.2.2.1 - (y.2.2.2.2.2.1 + 1) ≤ m; omega) ?_ ?_
      · intro j j0 j1
        have j1 : j < y.2.2.2.2.2.1 + 1 := j1
        by_cases hj : j = y.2.2.2.2.2.1
        · rw [hj]; omega
        · exact h1 j j0 (by omega)
      · intro j j0 j1
        have j0 : y.2.2.2.2.2.1 + 1 ≤ j := j0
        exact h2 j (by omega) j1
    · rw [if_neg hc]
      refine ⟨h1, ?_⟩
      intro j j0 j1
      have h3 := h2 j j0 j1
      by_cases hj : j = y.2.2.2.2.2.1
      · rw [hj] at h3 j1 ⊢
        omega
      · have h4 := h2 y.2.2.2.2.2.1 (by omega) (by omega)
        have h5 := hs.2.2.2.2 y.2.2.2.2.2.1 j h0 (by omega) j1
        omega
theorem layS_ptr {s : zSh} (hs : okW s) {l k : Int} {y : zLy} (hln : y.2.2.1 = l) (h0 : 0 ≤ y.2.2.2.2.2.1) (h : ptr s l k y.2.2.2.2.2.1) : ptr s l (k + 1) (layS s y k).2.2.2.2.2.1 :=
  plC_ptr hs _ l k _ y hln h0 (by omega) (fun j j0 j1 => by have := h.1 j j0 j1; omega) h.2
def layI (s : zSh) : Nat → Int → zLy → zLy
  | 0, _, y => y
  | m + 1, k, y => layI s m (k + 1) (layS s y k)
/-- a part of a line, to its end with the chords there -/
def layE (s : zSh) (l a b : Int) (y : zLy) : zLy := if b = s.2.1 (l + 1) - s.2.1 l then plc s (layI s (b - a).toNat a y) b else layI s (b - a).toNat a y
theorem layS_ln (s : zSh) (y : zLy) (k : Int) : (layS s y k).2.2.1 = y.2.2.1 := plC_ln s k _ _ y
/-- where a line begins to be laid -/
def yB (s : zSh) (l a : Int) : zLy := (zr0, zr0, l, 0, 0, cUT s.2.2.1 l (a - 1) s.2.2.2.2.1.toNat 0, -1, 0, 0, 0)
theorem yB_ptr {s : zSh} (hs : okW s) (l a : Int) : ptr s l a (yB s l a).2.2.2.2.2.1 := by
  have hc := hs.1.1.2.2.2.1
  have hu := cUT_le s.2.2.1 l (a - 1) s.2.2.2.2.1.toNat 0
  have hup := cUT_up s.2.2.1 l (a - 1) s.2.2.2.2.1.toNat 0
  have hno := cUT_no s.2.2.1 l (a - 1) s.2.2.2.2.1.toNat 0
  show ptr s l a (cUT s.2.2.1 l (a - 1) s.2.2.2.2.1.toNat 0)
  generalize cUT s.2.2.1 l (a - 1) s.2.2.2.2.1.toNat 0 = i at hu hup hno ⊢
  refine ⟨fun j j0 j1 => by have := hup j j0 j1; omega, ?_⟩
  intro j j0 j1
  have h1 := hno (by omega)
  by_cases h2 : j = i
  · rw [h2]; omega
  · have h3 := hs.2.2.2.2 i j (by omega) (by omega) j1
    omega
theorem yB_ok {s : zSh} (hs : okW s) {l a : Int} (hl : 0 ≤ l ∧ l < s.2.2.2.1) (ha : 0 ≤ a) : okY s a (yB s l a) := by
  have hc := hs.1.1.2.2.2.1
  have hlc := hs.1.1.1
  have hu := cUT_le s.2.2.1 l (a - 1) s.2.2.2.2.1.toNat 0
  refine ⟨⟨Int.le_refl 0, ?_⟩, ⟨Int.le_refl 0, ?_⟩, ⟨?_, ?_⟩, ⟨Int.le_refl 0, show (0 : Int) ≤ 680 by omega⟩, ⟨Int.le_refl 0, show (0 : Int) ≤ 680 by omega⟩, ⟨show (-1 : Int) ≤ -1 by omega, show (-1 : Int) ≤ 200 by omega⟩, ⟨Int.le_refl 0, show (0 : Int) ≤ 200 by omega⟩, ⟨Int.le_refl 0, ?_⟩, ⟨hl.1, ?_⟩, ⟨show (-2147483648 : Int) ≤ 0 by omega, show (0 : Int) ≤ 2147483647 by omega⟩⟩
  · show (0 : Int) ≤ a + 12 * cUT _ _ _ _ _; omega
  · show (0 : Int) ≤ a + 12 * cUT _ _ _ _ _; omega
  · show 0 ≤ cUT _ _ _ _ _; omega
  · show cUT _ _ _ _ _ ≤ _; omega
  · show (0 : Int) ≤ s.2.2.2.2.1; omega
  · show l ≤ 200; omega
set_option maxRecDepth 10000 in
set_option maxHeartbeats 1000000 in
theorem k_X10_laysChords (s : zSh) (v pa : Int → Int) (sn : Int) (tx : Int → Int) (ty si fl wi th ap nt rr rq rb wh : Int) (md : Int → Int) (a b c : zRw) (l : Int) (k : Int) (hs : okW s) (hv : Vr s v) (y : zLy) (hl : 0 ≤ l ∧ l < s.2.2.2.1) (hk : 0 ≤ k ∧ k ≤ (s.2.1 (l + 1) - s.2.1 l)) (hra : Req a y.1) (hrb : Req b y.2.1) (hy : okY s k y) (hln : y.2.2.1 = l) (hp : ptr s l k y.2.2.2.2.2.1) : zMet q_X10_laysChords 3 0 0 [zR 0, zI l, zI k] (wM v pa sn tx ty si fl wi th ap nt rr rq rb wh md c.2 c.1 a.2 b.2 a.1 b.1) (fun o w' => ∃ x : zX3, (Req x.1 (plc s y k).1 ∧ Req x.2.1 (plc s y k).2.1) ∧ o = .inl none ∧ w' = (wM v pa sn tx ty si fl wi th ap nt rr rq rb wh md x.2.2.2 x.2.2.1 x.1.2 x.2.1.2 x.1.1 x.2.1.1)) := by
  refine z_introF (ls := [(0, _), (1, _), (2, _)]) (by decide +kernel) rfl (fun _ _ => rfl) (fun _ _ => Nat.le_of_ble_eq_true rfl) ?_
  obtain ⟨v0, v1, v2, v3, vT, vF, vL⟩ := id hv
  have hz := hs.1
  obtain ⟨z1, z2, zT1, z4, zF1, zL1⟩ := id hz.1
  have zNm := hz.2.1
  have zg := hz.2.2.1
  have zm := hz.2.2.2.1
  have zln := hz.2.2.2.2
  have vS := Vr_sg hv zm
  have zQ1 := fun i h1 h2 => (zNm i h1 h2).2.1
  have t1 := zT1 l (by omega) (by omega)
  have t2 := zT1 (l + 1) (by omega) (by omega)
  refine wa_aload_n (pc' := 1) dX10_laysChords_0 rfl rfl rfl ?_
  refine wa_iload_n (pc' := 2) dX10_laysChords_1 rfl rfl rfl ?_
  refine wa_rI2 (pc' := 5) (st := []) (k_X10_lengthOf s _ _ _ _ _ _ _ _ _ _ _ _ _ _ _ _ _ _ _ _ _ _ l hs hv hl) ok_X10_lengthOf lm_X10_120 dX10_laysChords_2 rfl (wM_ok _ _ _ _ _ _ _ _ _ _ _ _ _ _ _ _ _ _ _ _ _ _) rfl rfl (Nat.le_of_ble_eq_true rfl) rfl rfl rfl rfl (by decide) (Nat.le_of_ble_eq_true rfl) rfl (by decide) (by decide) rfl rfl ?_
  refine wa_istore_n (pc' := 6) (ls' := [(3, _), (0, _), (1, _), (2, _)]) dX10_laysChords_5 rfl rfl (by decide) rfl ?_
  refine wa_join (J := 44) (P := fun x => x = 1 ∧ ((0 < k ∧ k < (s.2.1 (l + 1) - s.2.1 l)) ∧ ¬ ltr s.1 s.2.1 l (k - 1) = 32 ∧ ¬ ltr s.1 s.2.1 l k = 32) ∨ x = 0 ∧ ¬ ((0 < k ∧ k < (s.2.1 (l + 1) - s.2.1 l)) ∧ ¬ ltr s.1 s.2.1 l (k - 1) = 32 ∧ ¬ ltr s.1 s.2.1 l k = 32)) (fun x44 e44 => ?_) (fun K44 => ?_)
  · refine wa_istore (pc' := 46) (ls' := [(4, _), (3, _), (0, _), (1, _), (2, _)]) dX10_laysChords_44 rfl (by decide) rfl ?_
    refine wa_iconst (pc' := 47) dX10_laysChords_46 rfl ?_
    refine wa_istore (pc' := 49) (ls' := [(5, _), (4, _), (3, _), (0, _), (1, _), (2, _)]) dX10_laysChords_47 rfl (by decide) rfl ?_
    have q1 := isLt_1 zL1 t1.1 t2.2 k
    have q2 := isLt_1 zL1 t1.1 t2.2 (k - 1)
    have hf : plcF s y k = (if x44 = 0 then 32 else 45) := by
      unfold plcF
      rw [hln]
      rcases e44 with ⟨g1, g2⟩ | ⟨g1, g2⟩
      · rw [if_neg (show ¬ x44 = 0 by omega), if_pos ⟨q2.mpr ⟨by omega, g2.2.1⟩, q1.mpr ⟨by omega, g2.2.2⟩⟩]
      · rw [if_pos g1, if_neg]
        rintro ⟨g3, g4⟩
        have g5 := q1.mp g4
        have g6 := q2.mp g3
        exact g2 ⟨by omega, g6.2, g5.2⟩
    exact l_lc s v pa sn tx ty si fl wi th ap nt rr rq rb wh md x44 _ l k (by omega) (by omega) (by omega) hs hv (plc s y k) s.2.2.2.2.1.toNat 0 a b c y s.2.2.2.2.1.toNat (by omega) (by omega) hra hrb hy hln (fun j j0 j1 j2 => by by_cases g : y.2.2.2.2.2.1 ≤ j; exact g; exact absurd (hp.1 j (by omega) (by omega)) (by omega)) (fun g => by have := hy.2.2.1.1; omega) (fun g => by have := hy.2.2.1.1; omega) hp.2 (by have := hy.2.2.1.1; omega) (by rw [← hf]; rfl)
  · refine wa_iload_n (pc' := 7) dX10_laysChords_6 rfl rfl rfl ?_
    refine wa_if_le (tgt := 43) (pc' := 10) dX10_laysChords_7 (by decide) rfl (by omega) (fun c7 => ?_) (fun c7 => ?_)
    · refine wa_iconst (pc' := 44) dX10_laysChords_43 rfl ?_
      exact K44 _ (by show _ ∨ _; omega)
    · refine wa_iload_n (pc' := 11) dX10_laysChords_10 rfl rfl rfl ?_
      refine wa_iload_n (pc' := 12) dX10_laysChords_11 rfl rfl rfl ?_
      refine wa_icmp_ge (tgt := 43) (pc' := 15) dX10_laysChords_12 (by decide) rfl (by omega) (by omega) (fun c12 => ?_) (fun c12 => ?_)
      · refine wa_iconst (pc' := 44) dX10_laysChords_43 rfl ?_
        exact K44 _ (by show _ ∨ _; omega)
      · refine wa_aload_n (pc' := 16) dX10_laysChords_15 rfl rfl rfl ?_
        refine wa_iload_n (pc' := 17) dX10_laysChords_16 rfl rfl rfl ?_
        refine wa_iload_n (pc' := 18) dX10_laysChords_17 rfl rfl rfl ?_
        refine wa_iconst (pc' := 19) dX10_laysChords_18 rfl ?_
        refine wa_isub (pc' := 20) dX10_laysChords_19 rfl ?_
        refine wa_rI2 (pc' := 23) (st := []) (k_X10_lyricAt s _ _ _ _ _ _ _ _ _ _ _ _ _ _ _ _ _ _ _ _ _ _ l (k - 1) hs hv hl (by omega)) ok_X10_lyricAt lm_X10_123 dX10_laysChords_20 rfl (wM_ok _ _ _ _ _ _ _ _ _ _ _ _ _ _ _ _ _ _ _ _ _ _) rfl rfl (Nat.le_of_ble_eq_true rfl) rfl rfl rfl rfl (by decide) (Nat.le_of_ble_eq_true rfl) rfl (by decide) (by decide) rfl rfl ?_
        refine wa_bipush (pc' := 25) dX10_laysChords_23 rfl rfl ?_
        refine wa_icmp_eq (tgt := 43) (pc' := 28) dX10_laysChords_25 (by decide) rfl (by have := ltr9_b zL1 t1.1 t2.2 (k - 1); omega) (by omega) (fun c25 => ?_) (fun c25 => ?_)
        · refine wa_iconst (pc' := 44) dX10_laysChords_43 rfl ?_
          exact K44 _ (by show _ ∨ _; omega)
        · refine wa_aload_n (pc' := 29) dX10_laysChords_28 rfl rfl rfl ?_
          refine wa_iload_n (pc' := 30) dX10_laysChords_29 rfl rfl rfl ?_
          refine wa_iload_n (pc' := 31) dX10_laysChords_30 rfl rfl rfl ?_
          refine wa_rI2 (pc' := 34) (st := []) (k_X10_lyricAt s _ _ _ _ _ _ _ _ _ _ _ _ _ _ _ _ _ _ _ _ _ _ l k hs hv hl (by omega)) ok_X10_lyricAt lm_X10_123 dX10_laysChords_31 rfl (wM_ok _ _ _ _ _ _ _ _ _ _ _ _ _ _ _ _ _ _ _ _ _ _) rfl rfl (Nat.le_of_ble_eq_true rfl) rfl rfl rfl rfl (by decide) (Nat.le_of_ble_eq_true rfl) rfl (by decide) (by decide) rfl rfl ?_
          refine wa_bipush (pc' := 36) dX10_laysChords_34 rfl rfl ?_
          refine wa_icmp_eq (tgt := 43) (pc' := 39) dX10_laysChords_36 (by decide) rfl (by have := ltr9_b zL1 t1.1 t2.2 k; omega) (by omega) (fun c36 => ?_) (fun c36 => ?_)
          · refine wa_iconst (pc' := 44) dX10_laysChords_43 rfl ?_
            exact K44 _ (by show _ ∨ _; omega)
          · refine wa_iconst (pc' := 40) dX10_laysChords_39 rfl ?_
            refine wa_goto (pc' := 44) dX10_laysChords_40 (by decide) ?_
            exact K44 _ (by show _ ∨ _; omega)

set_option maxRecDepth 10000 in
set_option maxHeartbeats 1000000 in
theorem k_X10_isBreak (s : zSh) (v pa : Int → Int) (sn : Int) (tx : Int → Int) (ty si fl wi th ap nt rr rq rb wh : Int) (md na : Int → Int) (nd : Int) (up lo : Int → Int) (us lw : Int) (l : Int) (k : Int) (hs : okW s) (hv : Vr s v) (hl : 0 ≤ l ∧ l < s.2.2.2.1) (hk : 0 ≤ k ∧ k ≤ (s.2.1 (l + 1) - s.2.1 l)) : zMet q_X10_isBreak 2 0 0 [zR 0, zI l, zI k] (wM v pa sn tx ty si fl wi th ap nt rr rq rb wh md na nd up lo us lw) (zD (some (zI (if (k = 0 ∨ k = (s.2.1 (l + 1) - s.2.1 l) ∨ (¬ ltr s.1 s.2.1 l k = 32 ∧ ltr s.1 s.2.1 l (k - 1) = 32)) then 1 else 0))) (wM v pa sn tx ty si fl wi th ap nt rr rq rb wh md na nd up lo us lw)) := by
  refine z_introF (ls := [(0, _), (1, _), (2, _)]) (by decide +kernel) rfl (fun _ _ => rfl) (fun _ _ => Nat.le_of_ble_eq_true rfl) ?_
  obtain ⟨v0, v1, v2, v3, vT, vF, vL⟩ := id hv
  have hz := hs.1
  obtain ⟨z1, z2, zT1, z4, zF1, zL1⟩ := id hz.1
  have zNm := hz.2.1
  have zg := hz.2.2.1
  have zm := hz.2.2.2.1
  have zln := hz.2.2.2.2
  have vS := Vr_sg hv zm
  have zQ1 := fun i h1 h2 => (zNm i h1 h2).2.1
  have t1 := zT1 l (by omega) (by omega)
  have t2 := zT1 (l + 1) (by omega) (by omega)
  refine wa_aload_n (pc' := 1) dX10_isBreak_0 rfl rfl rfl ?_
  refine wa_iload_n (pc' := 2) dX10_isBreak_1 rfl rfl rfl ?_
  refine wa_rI2 (pc' := 5) (st := []) (k_X10_lengthOf s _ _ _ _ _ _ _ _ _ _ _ _ _ _ _ _ _ _ _ _ _ _ l hs hv hl) ok_X10_lengthOf lm_X10_120 dX10_isBreak_2 rfl (wM_ok _ _ _ _ _ _ _ _ _ _ _ _ _ _ _ _ _ _ _ _ _ _) rfl rfl (Nat.le_of_ble_eq_true rfl) rfl rfl rfl rfl (by decide) (Nat.le_of_ble_eq_true rfl) rfl (by decide) (by decide) rfl rfl ?_
  refine wa_istore_n (pc' := 6) (ls' := [(3, _), (0, _), (1, _), (2, _)]) dX10_isBreak_5 rfl rfl (by decide) rfl ?_
  refine wa_iload_n (pc' := 7) dX10_isBreak_6 rfl rfl rfl ?_
  refine wa_if_eq (tgt := 39) (pc' := 10) dX10_isBreak_7 (by decide) rfl (by omega) (fun c7 => ?_) (fun c7 => ?_)
  · refine wa_iconst (pc' := 40) dX10_isBreak_39 rfl ?_
    refine wa_goto (pc' := 44) dX10_isBreak_40 (by decide) ?_
    refine wa_zret dX10_isBreak_44 rfl (by decide) (by decide) (by omega) ?_
    first | exact zD_i rfl rfl | exact zD_i (by rw [if_pos (by omega)]) rfl | exact zD_i (by rw [if_neg (by omega)]) rfl
  · refine wa_iload_n (pc' := 11) dX10_isBreak_10 rfl rfl rfl ?_
    refine wa_iload_n (pc' := 12) dX10_isBreak_11 rfl rfl rfl ?_
    refine wa_icmp_eq (tgt := 39) (pc' := 15) dX10_isBreak_12 (by decide) rfl (by omega) (by omega) (fun c12 => ?_) (fun c12 => ?_)
    · refine wa_iconst (pc' := 40) dX10_isBreak_39 rfl ?_
      refine wa_goto (pc' := 44) dX10_isBreak_40 (by decide) ?_
      refine wa_zret dX10_isBreak_44 rfl (by decide) (by decide) (by omega) ?_
      first | exact zD_i rfl rfl | exact zD_i (by rw [if_pos (by omega)]) rfl | exact zD_i (by rw [if_neg (by omega)]) rfl
    · refine wa_aload_n (pc' := 16) dX10_isBreak_15 rfl rfl rfl ?_
      refine wa_iload_n (pc' := 17) dX10_isBreak_16 rfl rfl rfl ?_
      refine wa_iload_n (pc' := 18) dX10_isBreak_17 rfl rfl rfl ?_
      refine wa_rI2 (pc' := 21) (st := []) (k_X10_lyricAt s _ _ _ _ _ _ _ _ _ _ _ _ _ _ _ _ _ _ _ _ _ _ l k hs hv hl (by omega)) ok_X10_lyricAt lm_X10_123 dX10_isBreak_18 rfl (wM_ok _ _ _ _ _ _ _ _ _ _ _ _ _ _ _ _ _ _ _ _ _ _) rfl rfl (Nat.le_of_ble_eq_true rfl) rfl rfl rfl rfl (by decide) (Nat.le_of_ble_eq_true rfl) rfl (by decide) (by decide) rfl rfl ?_
      refine wa_bipush (pc' := 23) dX10_isBreak_21 rfl rfl ?_
      refine wa_icmp_eq (tgt := 43) (pc' := 26) dX10_isBreak_23 (by decide) rfl (by have := ltr9_b zL1 t1.1 t2.2 k; omega) (by omega) (fun c23 => ?_) (fun c23 => ?_)
      · refine wa_iconst (pc' := 44) dX10_isBreak_43 rfl ?_
        refine wa_zret dX10_isBreak_44 rfl (by decide) (by decide) (by omega) ?_
        first | exact zD_i rfl rfl | exact zD_i (by rw [if_pos (by omega)]) rfl | exact zD_i (by rw [if_neg (by omega)]) rfl
      · refine wa_aload_n (pc' := 27) dX10_isBreak_26 rfl rfl rfl ?_
        refine wa_iload_n (pc' := 28) dX10_isBreak_27 rfl rfl rfl ?_
        refine wa_iload_n (pc' := 29) dX10_isBreak_28 rfl rfl rfl ?_
        refine wa_iconst (pc' := 30) dX10_isBreak_29 rfl ?_
        refine wa_isub (pc' := 31) dX10_isBreak_30 rfl ?_
        refine wa_rI2 (pc' := 34) (st := []) (k_X10_lyricAt s _ _ _ _ _ _ _ _ _ _ _ _ _ _ _ _ _ _ _ _ _ _ l (k - 1) hs hv hl (by omega)) ok_X10_lyricAt lm_X10_123 dX10_isBreak_31 rfl (wM_ok _ _ _ _ _ _ _ _ _ _ _ _ _ _ _ _ _ _ _ _ _ _) rfl rfl (Nat.le_of_ble_eq_true rfl) rfl rfl rfl rfl (by decide) (Nat.le_of_ble_eq_true rfl) rfl (by decide) (by decide) rfl rfl ?_
        refine wa_bipush (pc' := 36) dX10_isBreak_34 rfl rfl ?_
        refine wa_icmp_ne (tgt := 43) (pc' := 39) dX10_isBreak_36 (by decide) rfl (by have := ltr9_b zL1 t1.1 t2.2 (k - 1); omega) (by omega) (fun c36 => ?_) (fun c36 => ?_)
        · refine wa_iconst (pc' := 44) dX10_isBreak_43 rfl ?_
          refine wa_zret dX10_isBreak_44 rfl (by decide) (by decide) (by omega) ?_
          first | exact zD_i rfl rfl | exact zD_i (by rw [if_pos (by omega)]) rfl | exact zD_i (by rw [if_neg (by omega)]) rfl
        · refine wa_iconst (pc' := 40) dX10_isBreak_39 rfl ?_
          refine wa_goto (pc' := 44) dX10_isBreak_40 (by decide) ?_
          refine wa_zret dX10_isBreak_44 rfl (by decide) (by decide) (by omega) ?_
          first | exact zD_i rfl rfl | exact zD_i (by rw [if_pos (by omega)]) rfl | exact zD_i (by rw [if_neg (by omega)]) rfl

set_option maxRecDepth 10000 in
set_option maxHeartbeats 1000000 in
theorem l_lays (s : zSh) (v pa : Int → Int) (sn : Int) (tx : Int → Int) (ty si fl wi th ap nt rr rq rb wh : Int) (md : Int → Int) (l fr to : Int) (hl : 0 ≤ l ∧ l < s.2.2.2.1) (hto : to ≤ (s.2.1 (l + 1) - s.2.1 l)) (hs : okW s) (hv : Vr s v) (R : zLy) : ∀ (m : Nat) (k : Int) (a b c : zRw) (y : zLy), 0 ≤ k → k + m = to → Req a y.1 → Req b y.2.1 → okY s k y → y.2.2.1 = l → ptr s l k y.2.2.2.2.2.1 → (if to = (s.2.1 (l + 1) - s.2.1 l) then plc s (layI s m k y) to else layI s m k y) = R → Wa q_X10_lays 4 0 0 10 (fun o w' => ∃ x : zX3, (Req x.1 R.1 ∧ Req x.2.1 R.2.1) ∧ o = .inl none ∧ w' = (wM v pa sn tx ty si fl wi th ap nt rr rq rb wh md x.2.2.2 x.2.2.1 x.1.2 x.2.1.2 x.1.1 x.2.1.1)) 13 [(4, zI k), (0, zR 0), (1, zI l), (2, zI fr), (3, zI to)] [] (wM v pa sn tx ty si fl wi th ap nt rr rq rb wh md c.2 c.1 a.2 b.2 a.1 b.1) 0 0 := by
  obtain ⟨v0, v1, v2, v3, vT, vF, vL⟩ := id hv
  have hz := hs.1
  obtain ⟨z1, z2, zT1, z4, zF1, zL1⟩ := id hz.1
  have zNm := hz.2.1
  have zg := hz.2.2.1
  have zm := hz.2.2.2.1
  have zln := hz.2.2.2.2
  have vS := Vr_sg hv zm
  have zQ1 := fun i h1 h2 => (zNm i h1 h2).2.1
  have t1 := zT1 l (by omega) (by omega)
  have t2 := zT1 (l + 1) (by omega) (by omega)
  intro m
  induction m with
  | zero =>
    intro k a b c y h0 hm hra hrb hy hln hp hR
    have hkt : k = to := by omega
    subst hkt
    have e0 : layI s 0 k y = y := rfl
    rw [e0] at hR
    refine wa_iload (pc' := 15) dX10_lays_13 rfl rfl ?_
    refine wa_iload_n (pc' := 16) dX10_lays_15 rfl rfl rfl ?_
    refine wa_icmp_ge (tgt := 58) (pc' := 19) dX10_lays_16 (by decide) rfl (by omega) (by omega) (fun c16 => ?_) (fun c16 => ?_)
    · refine wa_iload_n (pc' := 59) dX10_lays_58 rfl rfl rfl ?_
      refine wa_aload_n (pc' := 60) dX10_lays_59 rfl rfl rfl ?_
      refine wa_iload_n (pc' := 61) dX10_lays_60 rfl rfl rfl ?_
      refine wa_rI2 (pc' := 64) (st := [_]) (k_X10_lengthOf s _ _ _ _ _ _ _ _ _ _ _ _ _ _ _ _ _ _ _ _ _ _ l hs hv hl) ok_X10_lengthOf lm_X10_120 dX10_lays_61 rfl (wM_ok _ _ _ _ _ _ _ _ _ _ _ _ _ _ _ _ _ _ _ _ _ _) rfl rfl (Nat.le_of_ble_eq_true rfl) rfl rfl rfl rfl (by decide) (Nat.le_of_ble_eq_true rfl) rfl (by decide) (by decide) rfl rfl ?_
      refine wa_icmp_ne (tgt := 73) (pc' := 67) dX10_lays_64 (by decide) rfl (by omega) (by omega) (fun c64 => ?_) (fun c64 => ?_)
      · rw [if_neg c64] at hR
        subst hR
        refine wa_vret dX10_lays_73 rfl (by decide) (by decide) ?_
        first | exact ⟨x9, hx9, rfl, rfl⟩ | exact ⟨(a, b, c), ⟨hra, hrb⟩, rfl, rfl⟩
      · rw [if_pos c64] at hR
        subst hR
        refine wa_aload_n (pc' := 68) dX10_lays_67 rfl rfl rfl ?_
        refine wa_iload_n (pc' := 69) dX10_lays_68 rfl rfl rfl ?_
        refine wa_iload_n (pc' := 70) dX10_lays_69 rfl rfl rfl ?_
        refine wa_gI (pc' := 73) (st := []) (k_X10_laysChords s v pa sn tx ty si fl wi th ap nt rr rq rb wh md a b c l (k) hs hv y hl (by omega) hra hrb hy hln hp) ok_X10_laysChords lm_X10_206 dX10_lays_70 rfl (wM_ok _ _ _ _ _ _ _ _ _ _ _ _ _ _ _ _ _ _ _ _ _ _ ) (fun _ => rfl) (fun _ => wM_ok _ _ _ _ _ _ _ _ _ _ _ _ _ _ _ _ _ _ _ _ _ _ ) rfl rfl (Nat.le_of_ble_eq_true rfl) rfl rfl rfl rfl (by decide) (Nat.le_of_ble_eq_true rfl) rfl (by decide) (by decide) rfl rfl (fun x9 hx9 => ?_)
        show Wa _ _ _ _ _ _ _ _ [] _ _ _
        refine wa_vret dX10_lays_73 rfl (by decide) (by decide) ?_
        first | exact ⟨x9, hx9, rfl, rfl⟩ | exact ⟨(a, b, c), ⟨hra, hrb⟩, rfl, rfl⟩
    · exact absurd c16 (by omega)
  | succ m ih =>
    intro k a b c y h0 hm hra hrb hy hln hp hR
    have hy2 := plc_ok (i := k) zNm hy
    have hy3 := layS_ok zNm hy
    refine wa_iload (pc' := 15) dX10_lays_13 rfl rfl ?_
    refine wa_iload_n (pc' := 16) dX10_lays_15 rfl rfl rfl ?_
    refine wa_icmp_ge (tgt := 58) (pc' := 19) dX10_lays_16 (by decide) rfl (by omega) (by omega) (fun c16 => ?_) (fun c16 => ?_)
    · exact absurd c16 (by omega)
    · refine wa_aload_n (pc' := 20) dX10_lays_19 rfl rfl rfl ?_
      refine wa_iload_n (pc' := 21) dX10_lays_20 rfl rfl rfl ?_
      refine wa_iload (pc' := 23) dX10_lays_21 rfl rfl ?_
      refine wa_gI (pc' := 26) (st := []) (k_X10_laysChords s v pa sn tx ty si fl wi th ap nt rr rq rb wh md a b c l (k) hs hv y hl (by omega) hra hrb hy hln hp) ok_X10_laysChords lm_X10_206 dX10_lays_23 rfl (wM_ok _ _ _ _ _ _ _ _ _ _ _ _ _ _ _ _ _ _ _ _ _ _ ) (fun _ => rfl) (fun _ => wM_ok _ _ _ _ _ _ _ _ _ _ _ _ _ _ _ _ _ _ _ _ _ _ ) rfl rfl (Nat.le_of_ble_eq_true rfl) rfl rfl rfl rfl (by decide) (Nat.le_of_ble_eq_true rfl) rfl (by decide) (by decide) rfl rfl (fun x9 hx9 => ?_)
      show Wa _ _ _ _ _ _ _ _ [] _ _ _
      have r1 := hx9.2.1
      have r2 := hy2.2.1
      have r3 := hy2.2.2.1
      have hz9 := ltr9_b zL1 t1.1 t2.2 k
      refine wa_aload_n (pc' := 27) dX10_lays_26 rfl rfl rfl ?_
      refine wa_getfield (pc' := 30) (j := 21) zc_X10 lk_X10_43 dX10_lays_27 rfl (by decide) rfl rfl ?_
      refine wa_aload_n (pc' := 31) dX10_lays_30 rfl rfl rfl ?_
      refine wa_getfield (pc' := 34) (j := 23) zc_X10 lk_X10_203 dX10_lays_31 rfl (by decide) rfl rfl ?_
      refine wa_aload_n (pc' := 35) dX10_lays_34 rfl rfl rfl ?_
      refine wa_iload_n (pc' := 36) dX10_lays_35 rfl rfl rfl ?_
      refine wa_iload (pc' := 38) dX10_lays_36 rfl rfl ?_
      refine wa_rI2 (pc' := 41) (st := [_, _]) (k_X10_lyricAt s _ _ _ _ _ _ _ _ _ _ _ _ _ _ _ _ _ _ _ _ _ _ l k hs hv hl (by omega)) ok_X10_lyricAt lm_X10_123 dX10_lays_38 rfl (wM_ok _ _ _ _ _ _ _ _ _ _ _ _ _ _ _ _ _ _ _ _ _ _) rfl rfl (Nat.le_of_ble_eq_true rfl) rfl rfl rfl rfl (by decide) (Nat.le_of_ble_eq_true rfl) rfl (by decide) (by decide) rfl rfl ?_
      refine wa_iastore (pc' := 42) (w' := [_, _, _, _, _, _, _, _, _, zA _ _ _]) dX10_lays_41 rfl rfl (by omega) (by omega) (by decide) rfl ?_
      refine wa_aload_n (pc' := 43) dX10_lays_42 rfl rfl rfl ?_
      refine wa_dup (pc' := 44) dX10_lays_43 rfl rfl ?_
      refine wa_getfield (pc' := 47) (j := 23) zc_X10 lk_X10_203 dX10_lays_44 rfl (by decide) rfl rfl ?_
      refine wa_iconst (pc' := 48) dX10_lays_47 rfl ?_
      refine wa_iadd (pc' := 49) dX10_lays_48 rfl ?_
      refine wa_putfield (pc' := 52) (j := 23) (w' := [zO _ [_, _, _, _, _, _, _, _, _, _, _, _, _, _, _, _, _, _, _, _, _, _, _, _], _, _, _, _, _, _, _, _, _]) zc_X10 lk_X10_203 dX10_lays_49 rfl (by decide) rfl rfl (Nat.le_of_ble_eq_true rfl) True.intro rfl ?_
      refine wa_iinc (pc' := 55) (ls' := [(4, _), (0, _), (1, _), (2, _), (3, _)]) dX10_lays_52 rfl rfl (by decide) rfl ?_
      refine wa_goto (pc' := 13) dX10_lays_55 (by decide) ?_
      refine ih (k + 1) x9.1 (rA x9.2.1 (ltr s.1 s.2.1 l k)) x9.2.2 (layS s y k) (by omega) (by omega) hx9.1 ?_ hy3 ((layS_ln s y k).trans hln) (layS_ptr hs hln hy.2.2.1.1 hp) hR
      show Req _ (rA (plc s y k).2.1 (ltr s.1 s.2.1 y.2.2.1 k))
      rw [hln]
      exact Req_rA hx9.2 _

set_option maxRecDepth 10000 in
set_option maxHeartbeats 1000000 in
theorem k_X10_lays (s : zSh) (v pa : Int → Int) (sn : Int) (tx : Int → Int) (ty si fl wi th ap nt rr rq rb wh : Int) (md : Int → Int) (a b c : zRw) (l : Int) (fr : Int) (to : Int) (hs : okW s) (hv : Vr s v) (y : zLy) (hl : 0 ≤ l ∧ l < s.2.2.2.1) (hf : 0 ≤ fr ∧ fr ≤ to) (hto : to ≤ (s.2.1 (l + 1) - s.2.1 l)) (hra : y.1.1 = 0) (hrb : y.2.1.1 = 0) (hy : okY s fr y) (hln : y.2.2.1 = l) (hp : ptr s l fr y.2.2.2.2.2.1) : zMet q_X10_lays 4 0 0 [zR 0, zI l, zI fr, zI to] (wM v pa sn tx ty si fl wi th ap nt rr rq rb wh md c.2 c.1 a.2 b.2 a.1 b.1) (fun o w' => ∃ x : zX3, (Req x.1 (layE s l fr to y).1 ∧ Req x.2.1 (layE s l fr to y).2.1) ∧ o = .inl none ∧ w' = (wM v pa sn tx ty si fl wi th ap nt rr rq rb wh md x.2.2.2 x.2.2.1 x.1.2 x.2.1.2 x.1.1 x.2.1.1)) := by
  refine z_introF (ls := [(0, _), (1, _), (2, _), (3, _)]) (by decide +kernel) rfl (fun _ _ => rfl) (fun _ _ => Nat.le_of_ble_eq_true rfl) ?_
  obtain ⟨v0, v1, v2, v3, vT, vF, vL⟩ := id hv
  have hz := hs.1
  obtain ⟨z1, z2, zT1, z4, zF1, zL1⟩ := id hz.1
  have zNm := hz.2.1
  have zg := hz.2.2.1
  have zm := hz.2.2.2.1
  have zln := hz.2.2.2.2
  have vS := Vr_sg hv zm
  have zQ1 := fun i h1 h2 => (zNm i h1 h2).2.1
  have t1 := zT1 l (by omega) (by omega)
  have t2 := zT1 (l + 1) (by omega) (by omega)
  refine wa_aload_n (pc' := 1) dX10_lays_0 rfl rfl rfl ?_
  refine wa_iconst (pc' := 2) dX10_lays_1 rfl ?_
  refine wa_putfield (pc' := 5) (j := 22) (w' := [zO _ [_, _, _, _, _, _, _, _, _, _, _, _, _, _, _, _, _, _, _, _, _, _, _, _], _, _, _, _, _, _, _, _, _]) zc_X10 lk_X10_200 dX10_lays_2 rfl (by decide) rfl rfl (Nat.le_of_ble_eq_true rfl) True.intro rfl ?_
  refine wa_aload_n (pc' := 6) dX10_lays_5 rfl rfl rfl ?_
  refine wa_iconst (pc' := 7) dX10_lays_6 rfl ?_
  refine wa_putfield (pc' := 10) (j := 23) (w' := [zO _ [_, _, _, _, _, _, _, _, _, _, _, _, _, _, _, _, _, _, _, _, _, _, _, _], _, _, _, _, _, _, _, _, _]) zc_X10 lk_X10_203 dX10_lays_7 rfl (by decide) rfl rfl (Nat.le_of_ble_eq_true rfl) True.intro rfl ?_
  refine wa_iload_n (pc' := 11) dX10_lays_10 rfl rfl rfl ?_
  refine wa_istore (pc' := 13) (ls' := [(4, _), (0, _), (1, _), (2, _), (3, _)]) dX10_lays_11 rfl (by decide) rfl ?_
  exact l_lays s v pa sn tx ty si fl wi th ap nt rr rq rb wh md l fr to hl hto hs hv (layE s l fr to y) (to - fr).toNat fr (0, a.2) (0, b.2) c y (by omega) (by omega) ⟨hra.symm, fun j j0 j1 => absurd j1 (Int.not_lt.mpr j0)⟩ ⟨hrb.symm, fun j j0 j1 => absurd j1 (Int.not_lt.mpr j0)⟩ hy hln hp rfl

/-- a break -/
abbrev brk (s : zSh) (l k : Int) : Prop := k = 0 ∨ k = s.2.1 (l + 1) - s.2.1 l ∨ (¬ ltr s.1 s.2.1 l k = 32 ∧ ltr s.1 s.2.1 l (k - 1) = 32)
/-- the part fits -/
abbrev fit (s : zSh) (l w a k : Int) : Prop := (layE s l a k (yB s l a)).1.1 ≤ w ∧ (layE s l a k (yB s l a)).2.1.1 ≤ w
/-- where a pair ends, as it is sought from the end -/
def edR (s : zSh) (l w a : Int) : Nat → Int → Int → Int → Int
  | 0, _, nx, be => if be < 0 then nx else be
  | m + 1, k, nx, be => if brk s l k then edR s l w a m (k - 1) k (if be < 0 ∧ fit s l w a k then k else be) else edR s l w a m (k - 1) nx be
def edF (s : zSh) (l w a : Int) : Int := edR s l w a (s.2.1 (l + 1) - s.2.1 l - a).toNat (s.2.1 (l + 1) - s.2.1 l) (s.2.1 (l + 1) - s.2.1 l) (-1)
theorem edR_b (s : zSh) (l w a n : Int) : ∀ (m : Nat) (k nx be : Int), k = a + m → k ≤ n → (a < nx ∨ nx = n) → nx ≤ n → (be = -1 ∨ (a < be ∧ be ≤ n)) → -1 < a → a ≤ n → (a < edR s l w a m k nx be ∨ edR s l w a m k nx be = n) ∧ edR s l w a m k nx be ≤ n
  | 0, k, nx, be, hk, hkn, h1, h2, h3, ha, han => by
    rw [edR]
    split <;> omega
  | m + 1, k, nx, be, hk, hkn, h1, h2, h3, ha, han => by
    rw [edR]
    by_cases h9 : brk s l k
    · rw [if_pos h9]
      exact edR_b s l w a n m (k - 1) k _ (by omega) (by omega) (by omega) (by omega) (by split <;> omega) ha han
    · rw [if_neg h9]
      exact edR_b s l w a n m (k - 1) nx be (by omega) (by omega) h1 h2 h3 ha han
theorem edF_b {s : zSh} {l w a : Int} (h : 0 ≤ a ∧ a ≤ s.2.1 (l + 1) - s.2.1 l) : (a < edF s l w a ∨ edF s l w a = s.2.1 (l + 1) - s.2.1 l) ∧ edF s l w a ≤ s.2.1 (l + 1) - s.2.1 l :=
  edR_b s l w a _ _ _ _ _ (by omega) (by omega) (by omega) (by omega) (Or.inl rfl) (by omega) h.2
theorem layI_ok {s : zSh} (hs : okN s) : ∀ (m : Nat) (k : Int) (y : zLy), okY s k y → okY s (k + m) (layI s m k y)
  | 0, k, y, h => by
    rw [show k + ((0 : Nat) : Int) = k by omega]
    exact h
  | m + 1, k, y, h => by
    rw [show k + ((m + 1 : Nat) : Int) = k + 1 + (m : Nat) by omega]
    exact layI_ok hs m (k + 1) _ (layS_ok hs h)
theorem layE_ok {s : zSh} {l a b : Int} {y : zLy} (hs : okN s) (h : a ≤ b) (hy : okY s a y) : okY s b (layE s l a b y) := by
  have h1 := layI_ok hs (b - a).toNat a y hy
  rw [show a + (((b - a).toNat : Nat) : Int) = b by omega] at h1
  unfold layE
  split
  · exact plc_ok hs h1
  · exact h1
theorem layE_sz {s : zSh} {l a b : Int} {y : zLy} (hs : okN s) (hc : s.2.2.2.2.1 ≤ 40) (h : a ≤ b) (hb : b ≤ 200) (hy : okY s a y) : (0 ≤ (layE s l a b y).1.1 ∧ (layE s l a b y).1.1 ≤ 680) ∧ (0 ≤ (layE s l a b y).2.1.1 ∧ (layE s l a b y).2.1.1 ≤ 680) := by
  have h1 := layE_ok (l := l) hs h hy
  have h2 := h1.2.2.1
  exact ⟨⟨h1.1.1, by have := h1.1.2; omega⟩, ⟨h1.2.1.1, by have := h1.2.1.2; omega⟩⟩
set_option maxRecDepth 10000 in
set_option maxHeartbeats 1000000 in
theorem l_endOf (s : zSh) (v pa : Int → Int) (sn : Int) (tx : Int → Int) (ty si fl wi th ap nt rr rq rb wh : Int) (md : Int → Int) (l fr : Int) (hl : 0 ≤ l ∧ l < s.2.2.2.1) (hf : 0 ≤ fr ∧ fr ≤ (s.2.1 (l + 1) - s.2.1 l)) (hwi : zin wi) (hs : okW s) (hv : Vr s v) (R : Int) : ∀ (m : Nat) (k nx be : Int) (a b c : zRw), k = fr + m → k ≤ (s.2.1 (l + 1) - s.2.1 l) → zin nx → (be = -1 ∨ (0 ≤ be ∧ be ≤ (s.2.1 (l + 1) - s.2.1 l))) → edR s l wi fr m k nx be = R → Wa q_X10_endOf 5 0 0 10 (fun o w' => ∃ x : zX3, True ∧ o = .inl (some (zI (R))) ∧ w' = (wM v pa sn tx ty si fl wi th ap nt rr rq rb wh md x.2.2.2 x.2.2.1 x.1.2 x.2.1.2 x.1.1 x.2.1.1)) 15 [(6, zI k), (5, zI be), (4, zI nx), (3, zI (s.2.1 (l + 1) - s.2.1 l)), (0, zR 0), (1, zI l), (2, zI fr)] [] (wM v pa sn tx ty si fl wi th ap nt rr rq rb wh md c.2 c.1 a.2 b.2 a.1 b.1) 0 0 := by
  obtain ⟨v0, v1, v2, v3, vT, vF, vL⟩ := id hv
  have hz := hs.1
  obtain ⟨z1, z2, zT1, z4, zF1, zL1⟩ := id hz.1
  have zNm := hz.2.1
  have zg := hz.2.2.1
  have zm := hz.2.2.2.1
  have zln := hz.2.2.2.2
  have vS := Vr_sg hv zm
  have zQ1 := fun i h1 h2 => (zNm i h1 h2).2.1
  have t1 := zT1 l (by omega) (by omega)
  have t2 := zT1 (l + 1) (by omega) (by omega)
  intro m
  induction m with
  | zero =>
    intro k nx be a b c hk hkn hnx hbe hR
    refine wa_iload (pc' := 17) dX10_endOf_15 rfl rfl ?_
    refine wa_iload_n (pc' := 18) dX10_endOf_17 rfl rfl rfl ?_
    refine wa_icmp_le (tgt := 85) (pc' := 21) dX10_endOf_18 (by decide) rfl (by omega) (by omega) (fun c18 => ?_) (fun c18 => ?_)
    · refine wa_iload (pc' := 87) dX10_endOf_85 rfl rfl ?_
      refine wa_if_ge (tgt := 95) (pc' := 90) dX10_endOf_87 (by decide) rfl (by omega) (fun c87 => ?_) (fun c87 => ?_)
      · refine wa_iload (pc' := 97) dX10_endOf_95 rfl rfl ?_
        refine wa_iret dX10_endOf_97 rfl (by decide) (by decide) ?_
        first | exact ⟨(a, b, c), trivial, by rw [← hR, edR, if_pos (by omega)], rfl⟩ | exact ⟨(a, b, c), trivial, by rw [← hR, edR, if_neg (by omega)], rfl⟩
      · refine wa_iload (pc' := 92) dX10_endOf_90 rfl rfl ?_
        refine wa_goto (pc' := 97) dX10_endOf_92 (by decide) ?_
        refine wa_iret dX10_endOf_97 rfl (by decide) (by decide) ?_
        first | exact ⟨(a, b, c), trivial, by rw [← hR, edR, if_pos (by omega)], rfl⟩ | exact ⟨(a, b, c), trivial, by rw [← hR, edR, if_neg (by omega)], rfl⟩
    · exact absurd c18 (by omega)
  | succ m ih =>
    intro k nx be a b c hk hkn hnx hbe hR
    rw [edR] at hR
    have hyp := yB_ptr hs l fr
    have hyo := yB_ok hs (l := l) (a := fr) hl hf.1
    refine wa_iload (pc' := 17) dX10_endOf_15 rfl rfl ?_
    refine wa_iload_n (pc' := 18) dX10_endOf_17 rfl rfl rfl ?_
    refine wa_icmp_le (tgt := 85) (pc' := 21) dX10_endOf_18 (by decide) rfl (by omega) (by omega) (fun c18 => ?_) (fun c18 => ?_)
    · exact absurd c18 (by omega)
    · refine wa_aload_n (pc' := 22) dX10_endOf_21 rfl rfl rfl ?_
      refine wa_iload_n (pc' := 23) dX10_endOf_22 rfl rfl rfl ?_
      refine wa_iload (pc' := 25) dX10_endOf_23 rfl rfl ?_
      refine wa_rI2 (pc' := 28) (st := []) (k_X10_isBreak s _ _ _ _ _ _ _ _ _ _ _ _ _ _ _ _ _ _ _ _ _ _ l k hs hv hl (by omega)) ok_X10_isBreak lm_X10_210 dX10_endOf_25 rfl (wM_ok _ _ _ _ _ _ _ _ _ _ _ _ _ _ _ _ _ _ _ _ _ _) rfl rfl (Nat.le_of_ble_eq_true rfl) rfl rfl rfl rfl (by decide) (Nat.le_of_ble_eq_true rfl) rfl (by decide) (by decide) rfl rfl ?_
      refine wa_if_eq (tgt := 79) (pc' := 31) dX10_endOf_28 (by decide) rfl (by split <;> omega) (fun c28 => ?_) (fun c28 => ?_)
      · have h28 := ite0 c28
        rw [if_neg (show ¬ brk s l k from h28)] at hR
        refine wa_iinc (pc' := 82) (ls' := [(6, _), (5, _), (4, _), (3, _), (0, _), (1, _), (2, _)]) dX10_endOf_79 rfl rfl (by decide) rfl ?_
        refine wa_goto (pc' := 15) dX10_endOf_82 (by decide) ?_
        first | (rw [← e77] at hR; exact ih (k + -1) k x77 x9.1 x9.2.1 x9.2.2 (by omega) (by omega) (by omega) (by rw [e77]; split <;> omega) hR) | exact ih (k + -1) nx be a b c (by omega) (by omega) hnx hbe hR
      · have h28 := ite1 c28
        rw [if_pos (show brk s l k from h28)] at hR
        refine wa_iload (pc' := 33) dX10_endOf_31 rfl rfl ?_
        refine wa_istore (pc' := 35) (ls' := [(4, _), (6, _), (5, _), (3, _), (0, _), (1, _), (2, _)]) dX10_endOf_33 rfl (by decide) rfl ?_
        refine wa_aload_n (pc' := 36) dX10_endOf_35 rfl rfl rfl ?_
        refine wa_iload_n (pc' := 37) dX10_endOf_36 rfl rfl rfl ?_
        refine wa_iload_n (pc' := 38) dX10_endOf_37 rfl rfl rfl ?_
        refine wa_iload (pc' := 40) dX10_endOf_38 rfl rfl ?_
        refine wa_gI (pc' := 43) (st := []) (k_X10_lays s v pa sn tx ty si fl wi th ap nt rr rq rb wh md a b c l fr k hs hv (yB s l fr) hl (by omega) (by omega) rfl rfl hyo rfl hyp) ok_X10_lays lm_X10_213 dX10_endOf_40 rfl (wM_ok _ _ _ _ _ _ _ _ _ _ _ _ _ _ _ _ _ _ _ _ _ _ ) (fun _ => rfl) (fun _ => wM_ok _ _ _ _ _ _ _ _ _ _ _ _ _ _ _ _ _ _ _ _ _ _ ) rfl rfl (Nat.le_of_ble_eq_true rfl) rfl rfl rfl rfl (by decide) (Nat.le_of_ble_eq_true rfl) rfl (by decide) (by decide) rfl rfl (fun x9 hx9 => ?_)
        show Wa _ _ _ _ _ _ _ _ [] _ _ _
        have hbd := layE_sz (l := l) (a := fr) (b := k) zNm z4.2 (by omega) (by omega) hyo
        refine wa_join (J := 77) (P := fun x => x = if be < 0 ∧ fit s l wi fr k then k else be) (fun x77 e77 => ?_) (fun K77 => ?_)
        · refine wa_istore (pc' := 79) (ls' := [(5, _), (4, _), (6, _), (3, _), (0, _), (1, _), (2, _)]) dX10_endOf_77 rfl (by decide) rfl ?_
          refine wa_iinc (pc' := 82) (ls' := [(6, _), (5, _), (4, _), (3, _), (0, _), (1, _), (2, _)]) dX10_endOf_79 rfl rfl (by decide) rfl ?_
          refine wa_goto (pc' := 15) dX10_endOf_82 (by decide) ?_
          first | (rw [← e77] at hR; exact ih (k + -1) k x77 x9.1 x9.2.1 x9.2.2 (by omega) (by omega) (by omega) (by rw [e77]; split <;> omega) hR) | exact ih (k + -1) nx be a b c (by omega) (by omega) hnx hbe hR
        · refine wa_iload (pc' := 45) dX10_endOf_43 rfl rfl ?_
          refine wa_if_ge (tgt := 75) (pc' := 48) dX10_endOf_45 (by decide) rfl (by omega) (fun c45 => ?_) (fun c45 => ?_)
          · refine wa_iload (pc' := 77) dX10_endOf_75 rfl rfl ?_
            exact K77 _ (by show _ = _; unfold fit; have := hx9.1.1; have := hx9.2.1; first | (exfalso; omega) | rw [if_pos (by omega)] | rw [if_neg (by omega)])
          · refine wa_aload_n (pc' := 49) dX10_endOf_48 rfl rfl rfl ?_
            refine wa_getfield (pc' := 52) (j := 22) zc_X10 lk_X10_200 dX10_endOf_49 rfl (by decide) rfl rfl ?_
            refine wa_aload_n (pc' := 53) dX10_endOf_52 rfl rfl rfl ?_
            refine wa_getfield (pc' := 56) (j := 7) zc_X10 lk_X10_23 dX10_endOf_53 rfl (by decide) rfl rfl ?_
            refine wa_icmp_gt (tgt := 75) (pc' := 59) dX10_endOf_56 (by decide) rfl (by have := hx9.1.1; have := hbd.1; omega) (by omega) (fun c56 => ?_) (fun c56 => ?_)
            · refine wa_iload (pc' := 77) dX10_endOf_75 rfl rfl ?_
              exact K77 _ (by show _ = _; unfold fit; have := hx9.1.1; have := hx9.2.1; first | (exfalso; omega) | rw [if_pos (by omega)] | rw [if_neg (by omega)])
            · refine wa_aload_n (pc' := 60) dX10_endOf_59 rfl rfl rfl ?_
              refine wa_getfield (pc' := 63) (j := 23) zc_X10 lk_X10_203 dX10_endOf_60 rfl (by decide) rfl rfl ?_
              refine wa_aload_n (pc' := 64) dX10_endOf_63 rfl rfl rfl ?_
              refine wa_getfield (pc' := 67) (j := 7) zc_X10 lk_X10_23 dX10_endOf_64 rfl (by decide) rfl rfl ?_
              refine wa_icmp_gt (tgt := 75) (pc' := 70) dX10_endOf_67 (by decide) rfl (by have := hx9.2.1; have := hbd.2; omega) (by omega) (fun c67 => ?_) (fun c67 => ?_)
              · refine wa_iload (pc' := 77) dX10_endOf_75 rfl rfl ?_
                exact K77 _ (by show _ = _; unfold fit; have := hx9.1.1; have := hx9.2.1; first | (exfalso; omega) | rw [if_pos (by omega)] | rw [if_neg (by omega)])
              · refine wa_iload (pc' := 72) dX10_endOf_70 rfl rfl ?_
                refine wa_goto (pc' := 77) dX10_endOf_72 (by decide) ?_
                exact K77 _ (by show _ = _; unfold fit; have := hx9.1.1; have := hx9.2.1; first | (exfalso; omega) | rw [if_pos (by omega)] | rw [if_neg (by omega)])

set_option maxRecDepth 10000 in
set_option maxHeartbeats 1000000 in
theorem k_X10_endOf (s : zSh) (v pa : Int → Int) (sn : Int) (tx : Int → Int) (ty si fl wi th ap nt rr rq rb wh : Int) (md : Int → Int) (a b c : zRw) (l : Int) (fr : Int) (hs : okW s) (hv : Vr s v) (hl : 0 ≤ l ∧ l < s.2.2.2.1) (hf : 0 ≤ fr ∧ fr ≤ (s.2.1 (l + 1) - s.2.1 l)) (hwi : zin wi) : zMet q_X10_endOf 5 0 0 [zR 0, zI l, zI fr] (wM v pa sn tx ty si fl wi th ap nt rr rq rb wh md c.2 c.1 a.2 b.2 a.1 b.1) (fun o w' => ∃ x : zX3, True ∧ o = .inl (some (zI (edF s l wi fr))) ∧ w' = (wM v pa sn tx ty si fl wi th ap nt rr rq rb wh md x.2.2.2 x.2.2.1 x.1.2 x.2.1.2 x.1.1 x.2.1.1)) := by
  refine z_introF (ls := [(0, _), (1, _), (2, _)]) (by decide +kernel) rfl (fun _ _ => rfl) (fun _ _ => Nat.le_of_ble_eq_true rfl) ?_
  obtain ⟨v0, v1, v2, v3, vT, vF, vL⟩ := id hv
  have hz := hs.1
  obtain ⟨z1, z2, zT1, z4, zF1, zL1⟩ := id hz.1
  have zNm := hz.2.1
  have zg := hz.2.2.1
  have zm := hz.2.2.2.1
  have zln := hz.2.2.2.2
  have vS := Vr_sg hv zm
  have zQ1 := fun i h1 h2 => (zNm i h1 h2).2.1
  have t1 := zT1 l (by omega) (by omega)
  have t2 := zT1 (l + 1) (by omega) (by omega)
  refine wa_aload_n (pc' := 1) dX10_endOf_0 rfl rfl rfl ?_
  refine wa_iload_n (pc' := 2) dX10_endOf_1 rfl rfl rfl ?_
  refine wa_rI2 (pc' := 5) (st := []) (k_X10_lengthOf s _ _ _ _ _ _ _ _ _ _ _ _ _ _ _ _ _ _ _ _ _ _ l hs hv hl) ok_X10_lengthOf lm_X10_120 dX10_endOf_2 rfl (wM_ok _ _ _ _ _ _ _ _ _ _ _ _ _ _ _ _ _ _ _ _ _ _) rfl rfl (Nat.le_of_ble_eq_true rfl) rfl rfl rfl rfl (by decide) (Nat.le_of_ble_eq_true rfl) rfl (by decide) (by decide) rfl rfl ?_
  refine wa_istore_n (pc' := 6) (ls' := [(3, _), (0, _), (1, _), (2, _)]) dX10_endOf_5 rfl rfl (by decide) rfl ?_
  refine wa_iload_n (pc' := 7) dX10_endOf_6 rfl rfl rfl ?_
  refine wa_istore (pc' := 9) (ls' := [(4, _), (3, _), (0, _), (1, _), (2, _)]) dX10_endOf_7 rfl (by decide) rfl ?_
  refine wa_iconst (pc' := 10) dX10_endOf_9 rfl ?_
  refine wa_istore (pc' := 12) (ls' := [(5, _), (4, _), (3, _), (0, _), (1, _), (2, _)]) dX10_endOf_10 rfl (by decide) rfl ?_
  refine wa_iload_n (pc' := 13) dX10_endOf_12 rfl rfl rfl ?_
  refine wa_istore (pc' := 15) (ls' := [(6, _), (5, _), (4, _), (3, _), (0, _), (1, _), (2, _)]) dX10_endOf_13 rfl (by decide) rfl ?_
  exact l_endOf s v pa sn tx ty si fl wi th ap nt rr rq rb wh md l fr hl hf hwi hs hv _ ((s.2.1 (l + 1) - s.2.1 l) - fr).toNat (s.2.1 (l + 1) - s.2.1 l) (s.2.1 (l + 1) - s.2.1 l) (-1) a b c (by omega) (by omega) (by omega) (Or.inl rfl) rfl

def prR (s : zSh) (l w : Int) : Nat → Int → Int → Int
  | 0, _, n => n
  | m + 1, k, n => if k < s.2.1 (l + 1) - s.2.1 l then prR s l w m (edF s l w k) (n + 1) else n
def prF (s : zSh) (l w : Int) : Int := prR s l w 201 0 (if s.2.1 (l + 1) - s.2.1 l = 0 then 1 else 0)
theorem prR_b (s : zSh) (l w : Int) : ∀ (m : Nat) (k n : Int), n ≤ prR s l w m k n ∧ prR s l w m k n ≤ n + m
  | 0, k, n => by simp [prR]
  | m + 1, k, n => by
    rw [prR]
    have := prR_b s l w m (edF s l w k) (n + 1)
    split <;> omega
set_option maxRecDepth 10000 in
set_option maxHeartbeats 1000000 in
theorem l_pairsOf (s : zSh) (v pa : Int → Int) (sn : Int) (tx : Int → Int) (ty si fl wi th ap nt rr rq rb wh : Int) (md : Int → Int) (l : Int) (hl : 0 ≤ l ∧ l < s.2.2.2.1) (hwi : zin wi) (hs : okW s) (hv : Vr s v) (R : Int) : ∀ (m : Nat) (k n : Int) (a b c : zRw), (0 ≤ k ∧ k ≤ (s.2.1 (l + 1) - s.2.1 l)) → (s.2.1 (l + 1) - s.2.1 l) - k < m → prR s l wi m k n = R → Wa q_X10_pairsOf 6 0 0 10 (fun o w' => ∃ x : zX3, True ∧ o = .inl (some (zI (R))) ∧ w' = (wM v pa sn tx ty si fl wi th ap nt rr rq rb wh md x.2.2.2 x.2.2.1 x.1.2 x.2.1.2 x.1.1 x.2.1.1)) 19 [(4, zI k), (3, zI n), (2, zI (s.2.1 (l + 1) - s.2.1 l)), (0, zR 0), (1, zI l)] [] (wM v pa sn tx ty si fl wi th ap nt rr rq rb wh md c.2 c.1 a.2 b.2 a.1 b.1) 0 0 := by
  obtain ⟨v0, v1, v2, v3, vT, vF, vL⟩ := id hv
  have hz := hs.1
  obtain ⟨z1, z2, zT1, z4, zF1, zL1⟩ := id hz.1
  have zNm := hz.2.1
  have zg := hz.2.2.1
  have zm := hz.2.2.2.1
  have zln := hz.2.2.2.2
  have vS := Vr_sg hv zm
  have zQ1 := fun i h1 h2 => (zNm i h1 h2).2.1
  have t1 := zT1 l (by omega) (by omega)
  have t2 := zT1 (l + 1) (by omega) (by omega)
  intro m
  induction m with
  | zero =>
    intro k n a b c hk hm hR
    exact absurd hm (by omega)
  | succ m ih =>
    intro k n a b c hk hm hR
    rw [prR] at hR
    have hb9 := edF_b (s := s) (l := l) (w := wi) (a := k) hk
    refine wa_iload (pc' := 21) dX10_pairsOf_19 rfl rfl ?_
    refine wa_iload_n (pc' := 22) dX10_pairsOf_21 rfl rfl rfl ?_
    refine wa_icmp_ge (tgt := 40) (pc' := 25) dX10_pairsOf_22 (by decide) rfl (by omega) (by omega) (fun c22 => ?_) (fun c22 => ?_)
    · refine wa_iload_n (pc' := 41) dX10_pairsOf_40 rfl rfl rfl ?_
      refine wa_iret dX10_pairsOf_41 rfl (by decide) (by decide) ?_
      exact ⟨(a, b, c), trivial, by rw [← hR, if_neg (by omega)], rfl⟩
    · refine wa_aload_n (pc' := 26) dX10_pairsOf_25 rfl rfl rfl ?_
      refine wa_iload_n (pc' := 27) dX10_pairsOf_26 rfl rfl rfl ?_
      refine wa_iload (pc' := 29) dX10_pairsOf_27 rfl rfl ?_
      refine wa_gI (pc' := 32) (st := []) (k_X10_endOf s v pa sn tx ty si fl wi th ap nt rr rq rb wh md a b c l k hs hv hl hk hwi) ok_X10_endOf lm_X10_217 dX10_pairsOf_29 rfl (wM_ok _ _ _ _ _ _ _ _ _ _ _ _ _ _ _ _ _ _ _ _ _ _ ) (fun _ => rfl) (fun _ => wM_ok _ _ _ _ _ _ _ _ _ _ _ _ _ _ _ _ _ _ _ _ _ _ ) rfl rfl (Nat.le_of_ble_eq_true rfl) rfl rfl rfl rfl (by decide) (Nat.le_of_ble_eq_true rfl) rfl (by decide) (by decide) rfl rfl (fun x9 hx9 => ?_)
      show Wa _ _ _ _ _ _ _ _ [_] _ _ _
      refine wa_istore (pc' := 34) (ls' := [(4, _), (3, _), (2, _), (0, _), (1, _)]) dX10_pairsOf_32 rfl (by decide) rfl ?_
      refine wa_iinc (pc' := 37) (ls' := [(3, _), (4, _), (2, _), (0, _), (1, _)]) dX10_pairsOf_34 rfl rfl (by decide) rfl ?_
      refine wa_goto (pc' := 19) dX10_pairsOf_37 (by decide) ?_
      refine wa_sub [1, 0, 2, 3, 4] rfl ?_
      rw [if_pos (by omega)] at hR
      exact ih (edF s l wi k) (n + 1) x9.1 x9.2.1 x9.2.2 (by omega) (by omega) hR

set_option maxRecDepth 10000 in
set_option maxHeartbeats 1000000 in
theorem k_X10_pairsOf (s : zSh) (v pa : Int → Int) (sn : Int) (tx : Int → Int) (ty si fl wi th ap nt rr rq rb wh : Int) (md : Int → Int) (a b c : zRw) (l : Int) (hs : okW s) (hv : Vr s v) (hl : 0 ≤ l ∧ l < s.2.2.2.1) (hwi : zin wi) : zMet q_X10_pairsOf 6 0 0 [zR 0, zI l] (wM v pa sn tx ty si fl wi th ap nt rr rq rb wh md c.2 c.1 a.2 b.2 a.1 b.1) (fun o w' => ∃ x : zX3, True ∧ o = .inl (some (zI (prF s l wi))) ∧ w' = (wM v pa sn tx ty si fl wi th ap nt rr rq rb wh md x.2.2.2 x.2.2.1 x.1.2 x.2.1.2 x.1.1 x.2.1.1)) := by
  refine z_introF (ls := [(0, _), (1, _)]) (by decide +kernel) rfl (fun _ _ => rfl) (fun _ _ => Nat.le_of_ble_eq_true rfl) ?_
  obtain ⟨v0, v1, v2, v3, vT, vF, vL⟩ := id hv
  have hz := hs.1
  obtain ⟨z1, z2, zT1, z4, zF1, zL1⟩ := id hz.1
  have zNm := hz.2.1
  have zg := hz.2.2.1
  have zm := hz.2.2.2.1
  have zln := hz.2.2.2.2
  have vS := Vr_sg hv zm
  have zQ1 := fun i h1 h2 => (zNm i h1 h2).2.1
  have t1 := zT1 l (by omega) (by omega)
  have t2 := zT1 (l + 1) (by omega) (by omega)
  have t3 := hs.2.2.1 l (by omega) (by omega)
  refine wa_aload_n (pc' := 1) dX10_pairsOf_0 rfl rfl rfl ?_
  refine wa_iload_n (pc' := 2) dX10_pairsOf_1 rfl rfl rfl ?_
  refine wa_rI2 (pc' := 5) (st := []) (k_X10_lengthOf s _ _ _ _ _ _ _ _ _ _ _ _ _ _ _ _ _ _ _ _ _ _ l hs hv hl) ok_X10_lengthOf lm_X10_120 dX10_pairsOf_2 rfl (wM_ok _ _ _ _ _ _ _ _ _ _ _ _ _ _ _ _ _ _ _ _ _ _) rfl rfl (Nat.le_of_ble_eq_true rfl) rfl rfl rfl rfl (by decide) (Nat.le_of_ble_eq_true rfl) rfl (by decide) (by decide) rfl rfl ?_
  refine wa_istore_n (pc' := 6) (ls' := [(2, _), (0, _), (1, _)]) dX10_pairsOf_5 rfl rfl (by decide) rfl ?_
  refine wa_join (J := 15) (P := fun x => x = if (s.2.1 (l + 1) - s.2.1 l) = 0 then 1 else 0) (fun x15 e15 => ?_) (fun K15 => ?_)
  · subst e15
    refine wa_istore_n (pc' := 16) (ls' := [(3, _), (2, _), (0, _), (1, _)]) dX10_pairsOf_15 rfl rfl (by decide) rfl ?_
    refine wa_iconst (pc' := 17) dX10_pairsOf_16 rfl ?_
    refine wa_istore (pc' := 19) (ls' := [(4, _), (3, _), (2, _), (0, _), (1, _)]) dX10_pairsOf_17 rfl (by decide) rfl ?_
    exact l_pairsOf s v pa sn tx ty si fl wi th ap nt rr rq rb wh md l hl hwi hs hv _ 201 0 _ a b c (by omega) (by omega) rfl
  · refine wa_iload_n (pc' := 7) dX10_pairsOf_6 rfl rfl rfl ?_
    refine wa_if_ne (tgt := 14) (pc' := 10) dX10_pairsOf_7 (by decide) rfl (by omega) (fun c7 => ?_) (fun c7 => ?_)
    · refine wa_iconst (pc' := 15) dX10_pairsOf_14 rfl ?_
      exact K15 _ (by show _ = _; first | rw [if_pos (by omega)] | rw [if_neg (by omega)])
    · refine wa_iconst (pc' := 11) dX10_pairsOf_10 rfl ?_
      refine wa_goto (pc' := 15) dX10_pairsOf_11 (by decide) ?_
      exact K15 _ (by show _ = _; first | rw [if_pos (by omega)] | rw [if_neg (by omega)])

theorem prF_zin (s : zSh) (l w : Int) : zin (prF s l w) := by
  have := prR_b s l w 201 0 (if s.2.1 (l + 1) - s.2.1 l = 0 then 1 else 0)
  have h : prF s l w = prR s l w 201 0 (if s.2.1 (l + 1) - s.2.1 l = 0 then 1 else 0) := rfl
  rw [h]
  have hi : (0 : Int) ≤ (if s.2.1 (l + 1) - s.2.1 l = 0 then 1 else 0) ∧ (if s.2.1 (l + 1) - s.2.1 l = 0 then (1 : Int) else 0) ≤ 1 := by split <;> omega
  omega
def itR (s : zSh) (l w : Int) : Nat → Int → Int
  | 0, a => a
  | m + 1, a => itR s l w m (edF s l w a)
theorem itR_b {s : zSh} {l w : Int} : ∀ (m : Nat) (a : Int), 0 ≤ a ∧ a ≤ s.2.1 (l + 1) - s.2.1 l → 0 ≤ itR s l w m a ∧ itR s l w m a ≤ s.2.1 (l + 1) - s.2.1 l
  | 0, a, h => h
  | m + 1, a, h => by
    have h1 := edF_b (w := w) h
    exact itR_b m _ (by omega)
set_option maxRecDepth 10000 in
set_option maxHeartbeats 1000000 in
theorem k_X10_isRow (s : zSh) (v pa : Int → Int) (sn : Int) (tx : Int → Int) (ty si fl wi th ap nt rr rq rb wh : Int) (md : Int → Int) (a b c : zRw) (l : Int) (p : Int) (r : Int) (hs : okW s) (hv : Vr s v) (hl : zin l) (hp : zin p) (hr : zin r) (hwi : zin wi) : zMet q_X10_isRow 7 0 0 [zR 0, zI l, zI p, zI r] (wM v pa sn tx ty si fl wi th ap nt rr rq rb wh md c.2 c.1 a.2 b.2 a.1 b.1) (fun o w' => ∃ x : zX3, True ∧ o = .inl (some (zI (if (0 ≤ l ∧ l < s.2.2.2.1) ∧ (0 ≤ r ∧ r ≤ 1) ∧ (0 ≤ p ∧ p < prF s l wi) then 1 else 0))) ∧ w' = (wM v pa sn tx ty si fl wi th ap nt rr rq rb wh md x.2.2.2 x.2.2.1 x.1.2 x.2.1.2 x.1.1 x.2.1.1)) := by
  refine z_introF (ls := [(0, _), (1, _), (2, _), (3, _)]) (by decide +kernel) rfl (fun _ _ => rfl) (fun _ _ => Nat.le_of_ble_eq_true rfl) ?_
  obtain ⟨v0, v1, v2, v3, vT, vF, vL⟩ := id hv
  have hz := hs.1
  obtain ⟨z1, z2, zT1, z4, zF1, zL1⟩ := id hz.1
  have zNm := hz.2.1
  have zg := hz.2.2.1
  have zm := hz.2.2.2.1
  have zln := hz.2.2.2.2
  have vS := Vr_sg hv zm
  have zQ1 := fun i h1 h2 => (zNm i h1 h2).2.1
  refine wa_aload_n (pc' := 1) dX10_isRow_0 rfl rfl rfl ?_
  refine wa_iload_n (pc' := 2) dX10_isRow_1 rfl rfl rfl ?_
  refine wa_rI2 (pc' := 5) (st := []) (k_X10_isLine s _ _ _ _ _ _ _ _ _ _ _ _ _ _ _ _ _ _ _ _ _ _ _ hs hv (by omega) ) ok_X10_isLine lm_X10_117 dX10_isRow_2 rfl (wM_ok _ _ _ _ _ _ _ _ _ _ _ _ _ _ _ _ _ _ _ _ _ _) rfl rfl (Nat.le_of_ble_eq_true rfl) rfl rfl rfl rfl (by decide) (Nat.le_of_ble_eq_true rfl) rfl (by decide) (by decide) rfl rfl ?_
  refine wa_if_eq (tgt := 34) (pc' := 8) dX10_isRow_5 (by decide) rfl (by split <;> omega) (fun c5 => ?_) (fun c5 => ?_)
  · have h5 := ite0 c5
    refine wa_iconst (pc' := 35) dX10_isRow_34 rfl ?_
    refine wa_zret dX10_isRow_35 rfl (by decide) (by decide) (by omega) ?_
    first | exact ⟨x9, trivial, by rw [if_pos (by omega)], rfl⟩ | exact ⟨x9, trivial, by rw [if_neg (by omega)], rfl⟩ | exact ⟨(a, b, c), trivial, by rw [if_neg (by omega)], rfl⟩
  · have h5 := ite1 c5
    refine wa_iload_n (pc' := 9) dX10_isRow_8 rfl rfl rfl ?_
    refine wa_iconst (pc' := 10) dX10_isRow_9 rfl ?_
    refine wa_iconst (pc' := 11) dX10_isRow_10 rfl ?_
    refine wa_dS (pc' := 14) (w' := [_, _, _, _, _, _, _, _, _, _]) (k_X10_in _ _ _ (by omega) (by omega) (by omega) ) ok_X10_in lm_X10_97 dX10_isRow_11 rfl [] rfl (by decide) rfl rfl (by decide) (Nat.le_of_ble_eq_true rfl) rfl (by decide) (by decide) rfl rfl rfl ?_
    refine wa_if_eq (tgt := 34) (pc' := 17) dX10_isRow_14 (by decide) rfl (by split <;> omega) (fun c14 => ?_) (fun c14 => ?_)
    · have h14 := ite0 c14
      refine wa_iconst (pc' := 35) dX10_isRow_34 rfl ?_
      refine wa_zret dX10_isRow_35 rfl (by decide) (by decide) (by omega) ?_
      first | exact ⟨x9, trivial, by rw [if_pos (by omega)], rfl⟩ | exact ⟨x9, trivial, by rw [if_neg (by omega)], rfl⟩ | exact ⟨(a, b, c), trivial, by rw [if_neg (by omega)], rfl⟩
    · have h14 := ite1 c14
      refine wa_iload_n (pc' := 18) dX10_isRow_17 rfl rfl rfl ?_
      refine wa_if_lt (tgt := 34) (pc' := 21) dX10_isRow_18 (by decide) rfl (by omega) (fun c18 => ?_) (fun c18 => ?_)
      · refine wa_iconst (pc' := 35) dX10_isRow_34 rfl ?_
        refine wa_zret dX10_isRow_35 rfl (by decide) (by decide) (by omega) ?_
        first | exact ⟨x9, trivial, by rw [if_pos (by omega)], rfl⟩ | exact ⟨x9, trivial, by rw [if_neg (by omega)], rfl⟩ | exact ⟨(a, b, c), trivial, by rw [if_neg (by omega)], rfl⟩
      · refine wa_iload_n (pc' := 22) dX10_isRow_21 rfl rfl rfl ?_
        refine wa_aload_n (pc' := 23) dX10_isRow_22 rfl rfl rfl ?_
        refine wa_iload_n (pc' := 24) dX10_isRow_23 rfl rfl rfl ?_
        refine wa_gI (pc' := 27) (st := [_]) (k_X10_pairsOf s v pa sn tx ty si fl wi th ap nt rr rq rb wh md a b c l hs hv h5 hwi) ok_X10_pairsOf lm_X10_220 dX10_isRow_24 rfl (wM_ok _ _ _ _ _ _ _ _ _ _ _ _ _ _ _ _ _ _ _ _ _ _ ) (fun _ => rfl) (fun _ => wM_ok _ _ _ _ _ _ _ _ _ _ _ _ _ _ _ _ _ _ _ _ _ _ ) rfl rfl (Nat.le_of_ble_eq_true rfl) rfl rfl rfl rfl (by decide) (Nat.le_of_ble_eq_true rfl) rfl (by decide) (by decide) rfl rfl (fun x9 hx9 => ?_)
        show Wa _ _ _ _ _ _ _ _ [_, _] _ _ _
        refine wa_icmp_ge (tgt := 34) (pc' := 30) dX10_isRow_27 (by decide) rfl (by omega) (by have : zin (prF s l wi) := prF_zin _ _ _; omega) (fun c27 => ?_) (fun c27 => ?_)
        · refine wa_iconst (pc' := 35) dX10_isRow_34 rfl ?_
          refine wa_zret dX10_isRow_35 rfl (by decide) (by decide) (by omega) ?_
          first | exact ⟨x9, trivial, by rw [if_pos (by omega)], rfl⟩ | exact ⟨x9, trivial, by rw [if_neg (by omega)], rfl⟩ | exact ⟨(a, b, c), trivial, by rw [if_neg (by omega)], rfl⟩
        · refine wa_iconst (pc' := 31) dX10_isRow_30 rfl ?_
          refine wa_goto (pc' := 35) dX10_isRow_31 (by decide) ?_
          refine wa_zret dX10_isRow_35 rfl (by decide) (by decide) (by omega) ?_
          first | exact ⟨x9, trivial, by rw [if_pos (by omega)], rfl⟩ | exact ⟨x9, trivial, by rw [if_neg (by omega)], rfl⟩ | exact ⟨(a, b, c), trivial, by rw [if_neg (by omega)], rfl⟩

set_option maxRecDepth 10000 in
set_option maxHeartbeats 1000000 in
theorem l_laysPair (s : zSh) (v pa : Int → Int) (sn : Int) (tx : Int → Int) (ty si fl wi th ap nt rr rq rb wh : Int) (md : Int → Int) (l p : Int) (hl : 0 ≤ l ∧ l < s.2.2.2.1) (hp : 0 ≤ p ∧ p ≤ 300) (hwi : zin wi) (hs : okW s) (hv : Vr s v) (E : Int) : ∀ (m : Nat) (k fr : Int) (a b c : zRw), k + m = p → (0 ≤ fr ∧ fr ≤ (s.2.1 (l + 1) - s.2.1 l)) → 0 ≤ k → itR s l wi m fr = E → Wa q_X10_laysPair 6 0 0 10 (fun o w' => ∃ x : zX3, (Req x.1 (layE s l E (edF s l wi E) (yB s l E)).1 ∧ Req x.2.1 (layE s l E (edF s l wi E) (yB s l E)).2.1) ∧ o = .inl none ∧ w' = (wM v pa sn tx ty si fl wi th ap nt rr rq rb wh md x.2.2.2 x.2.2.1 x.1.2 x.2.1.2 x.1.1 x.2.1.1)) 5 [(4, zI k), (3, zI fr), (0, zR 0), (1, zI l), (2, zI p)] [] (wM v pa sn tx ty si fl wi th ap nt rr rq rb wh md c.2 c.1 a.2 b.2 a.1 b.1) 0 0 := by
  obtain ⟨v0, v1, v2, v3, vT, vF, vL⟩ := id hv
  have hz := hs.1
  obtain ⟨z1, z2, zT1, z4, zF1, zL1⟩ := id hz.1
  have zNm := hz.2.1
  have zg := hz.2.2.1
  have zm := hz.2.2.2.1
  have zln := hz.2.2.2.2
  have vS := Vr_sg hv zm
  have zQ1 := fun i h1 h2 => (zNm i h1 h2).2.1
  have t1 := zT1 l (by omega) (by omega)
  have t2 := zT1 (l + 1) (by omega) (by omega)
  intro m
  induction m with
  | zero =>
    intro k fr a b c hk hf h0 hE
    have hE2 : fr = E := hE
    subst hE2
    have hb9 := edF_b (s := s) (l := l) (w := wi) (a := fr) hf
    refine wa_iload (pc' := 7) dX10_laysPair_5 rfl rfl ?_
    refine wa_iload_n (pc' := 8) dX10_laysPair_7 rfl rfl rfl ?_
    refine wa_icmp_ge (tgt := 24) (pc' := 11) dX10_laysPair_8 (by decide) rfl (by omega) (by omega) (fun c8 => ?_) (fun c8 => ?_)
    · refine wa_aload_n (pc' := 25) dX10_laysPair_24 rfl rfl rfl ?_
      refine wa_iload_n (pc' := 26) dX10_laysPair_25 rfl rfl rfl ?_
      refine wa_iload_n (pc' := 27) dX10_laysPair_26 rfl rfl rfl ?_
      refine wa_aload_n (pc' := 28) dX10_laysPair_27 rfl rfl rfl ?_
      refine wa_iload_n (pc' := 29) dX10_laysPair_28 rfl rfl rfl ?_
      refine wa_iload_n (pc' := 30) dX10_laysPair_29 rfl rfl rfl ?_
      refine wa_gI (pc' := 33) (st := [_, _, _]) (k_X10_endOf s v pa sn tx ty si fl wi th ap nt rr rq rb wh md a b c l fr hs hv hl hf hwi) ok_X10_endOf lm_X10_217 dX10_laysPair_30 rfl (wM_ok _ _ _ _ _ _ _ _ _ _ _ _ _ _ _ _ _ _ _ _ _ _ ) (fun _ => rfl) (fun _ => wM_ok _ _ _ _ _ _ _ _ _ _ _ _ _ _ _ _ _ _ _ _ _ _ ) rfl rfl (Nat.le_of_ble_eq_true rfl) rfl rfl rfl rfl (by decide) (Nat.le_of_ble_eq_true rfl) rfl (by decide) (by decide) rfl rfl (fun x9 hx9 => ?_)
      show Wa _ _ _ _ _ _ _ _ [_, _, _, _] _ _ _
      obtain ⟨x8, hx8⟩ : ∃ q : zX3, q = x9 := ⟨x9, rfl⟩
      rw [← hx8]
      clear hx9
      refine wa_gI (pc' := 36) (st := []) (k_X10_lays s v pa sn tx ty si fl wi th ap nt rr rq rb wh md x8.1 x8.2.1 x8.2.2 l fr (edF s l wi fr) hs hv (yB s l fr) hl (by omega) (by omega) rfl rfl (yB_ok hs hl hf.1) rfl (yB_ptr hs l fr)) ok_X10_lays lm_X10_213 dX10_laysPair_33 rfl (wM_ok _ _ _ _ _ _ _ _ _ _ _ _ _ _ _ _ _ _ _ _ _ _ ) (fun _ => rfl) (fun _ => wM_ok _ _ _ _ _ _ _ _ _ _ _ _ _ _ _ _ _ _ _ _ _ _ ) rfl rfl (Nat.le_of_ble_eq_true rfl) rfl rfl rfl rfl (by decide) (Nat.le_of_ble_eq_true rfl) rfl (by decide) (by decide) rfl rfl (fun x9 hx9 => ?_)
      show Wa _ _ _ _ _ _ _ _ [] _ _ _
      refine wa_vret dX10_laysPair_36 rfl (by decide) (by decide) ?_
      exact ⟨x9, hx9, rfl, rfl⟩
    · exact absurd c8 (by omega)
  | succ m ih =>
    intro k fr a b c hk hf h0 hE
    have hb9 := edF_b (s := s) (l := l) (w := wi) (a := fr) hf
    refine wa_iload (pc' := 7) dX10_laysPair_5 rfl rfl ?_
    refine wa_iload_n (pc' := 8) dX10_laysPair_7 rfl rfl rfl ?_
    refine wa_icmp_ge (tgt := 24) (pc' := 11) dX10_laysPair_8 (by decide) rfl (by omega) (by omega) (fun c8 => ?_) (fun c8 => ?_)
    · exact absurd c8 (by omega)
    · refine wa_aload_n (pc' := 12) dX10_laysPair_11 rfl rfl rfl ?_
      refine wa_iload_n (pc' := 13) dX10_laysPair_12 rfl rfl rfl ?_
      refine wa_iload_n (pc' := 14) dX10_laysPair_13 rfl rfl rfl ?_
      refine wa_gI (pc' := 17) (st := []) (k_X10_endOf s v pa sn tx ty si fl wi th ap nt rr rq rb wh md a b c l fr hs hv hl hf hwi) ok_X10_endOf lm_X10_217 dX10_laysPair_14 rfl (wM_ok _ _ _ _ _ _ _ _ _ _ _ _ _ _ _ _ _ _ _ _ _ _ ) (fun _ => rfl) (fun _ => wM_ok _ _ _ _ _ _ _ _ _ _ _ _ _ _ _ _ _ _ _ _ _ _ ) rfl rfl (Nat.le_of_ble_eq_true rfl) rfl rfl rfl rfl (by decide) (Nat.le_of_ble_eq_true rfl) rfl (by decide) (by decide) rfl rfl (fun x9 hx9 => ?_)
      show Wa _ _ _ _ _ _ _ _ [_] _ _ _
      refine wa_istore_n (pc' := 18) (ls' := [(3, _), (4, _), (0, _), (1, _), (2, _)]) dX10_laysPair_17 rfl rfl (by decide) rfl ?_
      refine wa_iinc (pc' := 21) (ls' := [(4, _), (3, _), (0, _), (1, _), (2, _)]) dX10_laysPair_18 rfl rfl (by decide) rfl ?_
      refine wa_goto (pc' := 5) dX10_laysPair_21 (by decide) ?_
      exact ih (k + 1) (edF s l wi fr) x9.1 x9.2.1 x9.2.2 (by omega) (by omega) (by omega) hE

set_option maxRecDepth 10000 in
set_option maxHeartbeats 1000000 in
theorem k_X10_laysPair (s : zSh) (v pa : Int → Int) (sn : Int) (tx : Int → Int) (ty si fl wi th ap nt rr rq rb wh : Int) (md : Int → Int) (a b c : zRw) (l : Int) (p : Int) (hs : okW s) (hv : Vr s v) (hl : 0 ≤ l ∧ l < s.2.2.2.1) (hp : 0 ≤ p ∧ p ≤ 300) (hwi : zin wi) : zMet q_X10_laysPair 6 0 0 [zR 0, zI l, zI p] (wM v pa sn tx ty si fl wi th ap nt rr rq rb wh md c.2 c.1 a.2 b.2 a.1 b.1) (fun o w' => ∃ x : zX3, (Req x.1 (layE s l (itR s l wi p.toNat 0) (edF s l wi (itR s l wi p.toNat 0)) (yB s l (itR s l wi p.toNat 0))).1 ∧ Req x.2.1 (layE s l (itR s l wi p.toNat 0) (edF s l wi (itR s l wi p.toNat 0)) (yB s l (itR s l wi p.toNat 0))).2.1) ∧ o = .inl none ∧ w' = (wM v pa sn tx ty si fl wi th ap nt rr rq rb wh md x.2.2.2 x.2.2.1 x.1.2 x.2.1.2 x.1.1 x.2.1.1)) := by
  refine z_introF (ls := [(0, _), (1, _), (2, _)]) (by decide +kernel) rfl (fun _ _ => rfl) (fun _ _ => Nat.le_of_ble_eq_true rfl) ?_
  obtain ⟨v0, v1, v2, v3, vT, vF, vL⟩ := id hv
  have hz := hs.1
  obtain ⟨z1, z2, zT1, z4, zF1, zL1⟩ := id hz.1
  have zNm := hz.2.1
  have zg := hz.2.2.1
  have zm := hz.2.2.2.1
  have zln := hz.2.2.2.2
  have vS := Vr_sg hv zm
  have zQ1 := fun i h1 h2 => (zNm i h1 h2).2.1
  have t1 := zT1 l (by omega) (by omega)
  have t2 := zT1 (l + 1) (by omega) (by omega)
  have t3 := hs.2.2.1 l (by omega) (by omega)
  refine wa_iconst (pc' := 1) dX10_laysPair_0 rfl ?_
  refine wa_istore_n (pc' := 2) (ls' := [(3, _), (0, _), (1, _), (2, _)]) dX10_laysPair_1 rfl rfl (by decide) rfl ?_
  refine wa_iconst (pc' := 3) dX10_laysPair_2 rfl ?_
  refine wa_istore (pc' := 5) (ls' := [(4, _), (3, _), (0, _), (1, _), (2, _)]) dX10_laysPair_3 rfl (by decide) rfl ?_
  exact l_laysPair s v pa sn tx ty si fl wi th ap nt rr rq rb wh md l p hl hp hwi hs hv (itR s l wi p.toNat 0) p.toNat 0 0 a b c (by omega) (by omega) (by omega) rfl

set_option maxRecDepth 10000 in
set_option maxHeartbeats 1000000 in
theorem k_X10_pairs (s : zSh) (v pa : Int → Int) (sn : Int) (tx : Int → Int) (ty si fl wi th ap nt rr rq rb wh : Int) (md : Int → Int) (a b c : zRw) (l : Int) (hs : okW s) (hv : Vr s v) (hl : zin l) (hwi : zin wi) : zMet q_X10_pairs 7 0 0 [zR 0, zI l] (wM v pa sn tx ty si fl wi th ap nt rr rq rb wh md c.2 c.1 a.2 b.2 a.1 b.1) (fun o w' => ∃ x : zX3, (True) ∧ o = .inl (some (zI (if 0 ≤ l ∧ l < s.2.2.2.1 then prF s l wi else 0))) ∧ w' = (wM v pa sn tx ty si fl wi (if 0 ≤ l ∧ l < s.2.2.2.1 then 0 else 1) ap nt rr rq rb wh md x.2.2.2 x.2.2.1 x.1.2 x.2.1.2 x.1.1 x.2.1.1)) := by
  refine z_introF (ls := [(0, _), (1, _)]) (by decide +kernel) rfl (fun _ _ => rfl) (fun _ _ => Nat.le_of_ble_eq_true rfl) ?_
  obtain ⟨v0, v1, v2, v3, vT, vF, vL⟩ := id hv
  have hz := hs.1
  obtain ⟨z1, z2, zT1, z4, zF1, zL1⟩ := id hz.1
  have zNm := hz.2.1
  have zg := hz.2.2.1
  have zm := hz.2.2.2.1
  have zln := hz.2.2.2.2
  have vS := Vr_sg hv zm
  have zQ1 := fun i h1 h2 => (zNm i h1 h2).2.1
  refine wa_aload_n (pc' := 1) dX10_pairs_0 rfl rfl rfl ?_
  refine wa_iconst (pc' := 2) dX10_pairs_1 rfl ?_
  refine wa_putfield (pc' := 5) (j := 8) (w' := [zO _ [_, _, _, _, _, _, _, _, _, _, _, _, _, _, _, _, _, _, _, _, _, _, _, _], _, _, _, _, _, _, _, _, _]) zc_X10 lk_X10_46 dX10_pairs_2 rfl (by decide) rfl rfl (Nat.le_of_ble_eq_true rfl) True.intro rfl ?_
  refine wa_aload_n (pc' := 6) dX10_pairs_5 rfl rfl rfl ?_
  refine wa_iload_n (pc' := 7) dX10_pairs_6 rfl rfl rfl ?_
  refine wa_rI2 (pc' := 10) (st := []) (k_X10_isLine s _ _ _ _ _ _ _ _ _ _ _ _ _ _ _ _ _ _ _ _ _ _ l hs hv (by omega)) ok_X10_isLine lm_X10_117 dX10_pairs_7 rfl (wM_ok _ _ _ _ _ _ _ _ _ _ _ _ _ _ _ _ _ _ _ _ _ _) rfl rfl (Nat.le_of_ble_eq_true rfl) rfl rfl rfl rfl (by decide) (Nat.le_of_ble_eq_true rfl) rfl (by decide) (by decide) rfl rfl ?_
  refine wa_if_eq (tgt := 21) (pc' := 13) dX10_pairs_10 (by decide) rfl (by split <;> omega) (fun c10 => ?_) (fun c10 => ?_)
  · have h10 := ite0 c10
    refine wa_aload_n (pc' := 22) dX10_pairs_21 rfl rfl rfl ?_
    refine wa_iconst (pc' := 23) dX10_pairs_22 rfl ?_
    refine wa_iD2 (pc' := 26) (st := []) (k_X10_fails _ _ _ _ _ _ _ _ _ _ _ _ _ _ _ _ _ _ _ _ _ _ _) ok_X10_fails lm_X10_101 dX10_pairs_23 rfl (wM_ok _ _ _ _ _ _ _ _ _ _ _ _ _ _ _ _ _ _ _ _ _ _) (Eq.refl 10) (wM_ok _ _ _ _ _ _ _ _ _ _ _ _ _ _ _ _ _ _ _ _ _ _) rfl rfl (Nat.le_of_ble_eq_true rfl) rfl rfl rfl rfl (by decide) (Nat.le_of_ble_eq_true rfl) rfl (by decide) (by decide) rfl rfl ?_
    show Wa _ _ _ _ _ _ _ _ [_] _ _ _
    refine wa_iret dX10_pairs_26 rfl (by decide) (by decide) ?_
    first | exact ⟨x9, trivial, by rw [if_pos (by omega)], by rw [if_pos (by omega)]⟩ | exact ⟨(a, b, c), trivial, by rw [if_neg (by omega)], by rw [if_neg (by omega)]⟩
  · have h10 := ite1 c10
    refine wa_aload_n (pc' := 14) dX10_pairs_13 rfl rfl rfl ?_
    refine wa_iload_n (pc' := 15) dX10_pairs_14 rfl rfl rfl ?_
    refine wa_gI (pc' := 18) (st := []) (k_X10_pairsOf s v pa sn tx ty si fl wi 0 ap nt rr rq rb wh md a b c l hs hv h10 hwi) ok_X10_pairsOf lm_X10_220 dX10_pairs_15 rfl (wM_ok _ _ _ _ _ _ _ _ _ _ _ _ _ _ _ _ _ _ _ _ _ _ ) (fun _ => rfl) (fun _ => wM_ok _ _ _ _ _ _ _ _ _ _ _ _ _ _ _ _ _ _ _ _ _ _ ) rfl rfl (Nat.le_of_ble_eq_true rfl) rfl rfl rfl rfl (by decide) (Nat.le_of_ble_eq_true rfl) rfl (by decide) (by decide) rfl rfl (fun x9 hx9 => ?_)
    show Wa _ _ _ _ _ _ _ _ [_] _ _ _
    refine wa_goto (pc' := 26) dX10_pairs_18 (by decide) ?_
    refine wa_iret dX10_pairs_26 rfl (by decide) (by decide) ?_
    first | exact ⟨x9, trivial, by rw [if_pos (by omega)], by rw [if_pos (by omega)]⟩ | exact ⟨(a, b, c), trivial, by rw [if_neg (by omega)], by rw [if_neg (by omega)]⟩

theorem prF_300 (s : zSh) (l w : Int) : prF s l w ≤ 300 := by
  have := prR_b s l w 201 0 (if s.2.1 (l + 1) - s.2.1 l = 0 then 1 else 0)
  have h : prF s l w = prR s l w 201 0 (if s.2.1 (l + 1) - s.2.1 l = 0 then 1 else 0) := rfl
  rw [h]
  have hi : (0 : Int) ≤ (if s.2.1 (l + 1) - s.2.1 l = 0 then 1 else 0) ∧ (if s.2.1 (l + 1) - s.2.1 l = 0 then (1 : Int) else 0) ≤ 1 := by split <;> omega
  omega
set_option maxRecDepth 10000 in
set_option maxHeartbeats 1000000 in
theorem k_X10_rowLength0 (s : zSh) (v pa : Int → Int) (sn : Int) (tx : Int → Int) (ty si fl wi th ap nt rr rq rb wh : Int) (md : Int → Int) (a b c : zRw) (l : Int) (p : Int) (r : Int) (hs : okW s) (hv : Vr s v) (hl : zin l) (hp : zin p) (hr : zin r) (hwi : zin wi) (hc : ¬ ((0 ≤ l ∧ l < s.2.2.2.1) ∧ (0 ≤ r ∧ r ≤ 1) ∧ (0 ≤ p ∧ p < prF s l wi))) : zMet q_X10_rowLength 8 0 0 [zR 0, zI l, zI p, zI r] (wM v pa sn tx ty si fl wi th ap nt rr rq rb wh md c.2 c.1 a.2 b.2 a.1 b.1) (fun o w' => ∃ x : zX3, (True) ∧ o = .inl (some (zI (0))) ∧ w' = (wM v pa sn tx ty si fl wi 1 ap nt rr rq rb wh md x.2.2.2 x.2.2.1 x.1.2 x.2.1.2 x.1.1 x.2.1.1)) := by
  refine z_introF (ls := [(0, _), (1, _), (2, _), (3, _)]) (by decide +kernel) rfl (fun _ _ => rfl) (fun _ _ => Nat.le_of_ble_eq_true rfl) ?_
  obtain ⟨v0, v1, v2, v3, vT, vF, vL⟩ := id hv
  have hz := hs.1
  obtain ⟨z1, z2, zT1, z4, zF1, zL1⟩ := id hz.1
  have zNm := hz.2.1
  have zg := hz.2.2.1
  have zm := hz.2.2.2.1
  have zln := hz.2.2.2.2
  have vS := Vr_sg hv zm
  have zQ1 := fun i h1 h2 => (zNm i h1 h2).2.1
  refine wa_aload_n (pc' := 1) dX10_rowLength_0 rfl rfl rfl ?_
  refine wa_iconst (pc' := 2) dX10_rowLength_1 rfl ?_
  refine wa_putfield (pc' := 5) (j := 8) (w' := [zO _ [_, _, _, _, _, _, _, _, _, _, _, _, _, _, _, _, _, _, _, _, _, _, _, _], _, _, _, _, _, _, _, _, _]) zc_X10 lk_X10_46 dX10_rowLength_2 rfl (by decide) rfl rfl (Nat.le_of_ble_eq_true rfl) True.intro rfl ?_
  refine wa_aload_n (pc' := 6) dX10_rowLength_5 rfl rfl rfl ?_
  refine wa_iload_n (pc' := 7) dX10_rowLength_6 rfl rfl rfl ?_
  refine wa_iload_n (pc' := 8) dX10_rowLength_7 rfl rfl rfl ?_
  refine wa_iload_n (pc' := 9) dX10_rowLength_8 rfl rfl rfl ?_
  refine wa_gI (pc' := 12) (st := []) (k_X10_isRow s v pa sn tx ty si fl wi 0 ap nt rr rq rb wh md a b c l p r hs hv hl hp hr hwi) ok_X10_isRow lm_X10_223 dX10_rowLength_9 rfl (wM_ok _ _ _ _ _ _ _ _ _ _ _ _ _ _ _ _ _ _ _ _ _ _ ) (fun _ => rfl) (fun _ => wM_ok _ _ _ _ _ _ _ _ _ _ _ _ _ _ _ _ _ _ _ _ _ _ ) rfl rfl (Nat.le_of_ble_eq_true rfl) rfl rfl rfl rfl (by decide) (Nat.le_of_ble_eq_true rfl) rfl (by decide) (by decide) rfl rfl (fun x9 hx9 => ?_)
  show Wa _ _ _ _ _ _ _ _ [_] _ _ _
  obtain ⟨x8, hx8⟩ : ∃ q : zX3, q = x9 := ⟨x9, rfl⟩
  rw [← hx8]
  clear hx9
  refine wa_if_ne (tgt := 21) (pc' := 15) dX10_rowLength_12 (by decide) rfl (by split <;> omega) (fun c12 => ?_) (fun c12 => ?_)
  · exact absurd (ite1 c12) hc
  · refine wa_aload_n (pc' := 16) dX10_rowLength_15 rfl rfl rfl ?_
    refine wa_iconst (pc' := 17) dX10_rowLength_16 rfl ?_
    refine wa_iD2 (pc' := 20) (st := []) (k_X10_fails _ _ _ _ _ _ _ _ _ _ _ _ _ _ _ _ _ _ _ _ _ _ _ ) ok_X10_fails lm_X10_101 dX10_rowLength_17 rfl (wM_ok _ _ _ _ _ _ _ _ _ _ _ _ _ _ _ _ _ _ _ _ _ _) (Eq.refl 10) (wM_ok _ _ _ _ _ _ _ _ _ _ _ _ _ _ _ _ _ _ _ _ _ _) rfl rfl (Nat.le_of_ble_eq_true rfl) rfl rfl rfl rfl (by decide) (Nat.le_of_ble_eq_true rfl) rfl (by decide) (by decide) rfl rfl ?_
    show Wa _ _ _ _ _ _ _ _ [_] _ _ _
    refine wa_iret dX10_rowLength_20 rfl (by decide) (by decide) ?_
    exact ⟨x8, trivial, rfl, rfl⟩

set_option maxRecDepth 10000 in
set_option maxHeartbeats 1000000 in
theorem k_X10_rowLength1 (s : zSh) (v pa : Int → Int) (sn : Int) (tx : Int → Int) (ty si fl wi th ap nt rr rq rb wh : Int) (md : Int → Int) (a b c : zRw) (l : Int) (p : Int) (r : Int) (hs : okW s) (hv : Vr s v) (hl : zin l) (hp : zin p) (hr : zin r) (hwi : zin wi) (hc : (0 ≤ l ∧ l < s.2.2.2.1) ∧ (0 ≤ r ∧ r ≤ 1) ∧ (0 ≤ p ∧ p < prF s l wi)) : zMet q_X10_rowLength 8 0 0 [zR 0, zI l, zI p, zI r] (wM v pa sn tx ty si fl wi th ap nt rr rq rb wh md c.2 c.1 a.2 b.2 a.1 b.1) (fun o w' => ∃ x : zX3, (True) ∧ o = .inl (some (zI (if r = 0 then (layE s l (itR s l wi p.toNat 0) (edF s l wi (itR s l wi p.toNat 0)) (yB s l (itR s l wi p.toNat 0))).1.1 else (layE s l (itR s l wi p.toNat 0) (edF s l wi (itR s l wi p.toNat 0)) (yB s l (itR s l wi p.toNat 0))).2.1.1))) ∧ w' = (wM v pa sn tx ty si fl wi 0 ap nt rr rq rb wh md x.2.2.2 x.2.2.1 x.1.2 x.2.1.2 x.1.1 x.2.1.1)) := by
  refine z_introF (ls := [(0, _), (1, _), (2, _), (3, _)]) (by decide +kernel) rfl (fun _ _ => rfl) (fun _ _ => Nat.le_of_ble_eq_true rfl) ?_
  obtain ⟨v0, v1, v2, v3, vT, vF, vL⟩ := id hv
  have hz := hs.1
  obtain ⟨z1, z2, zT1, z4, zF1, zL1⟩ := id hz.1
  have zNm := hz.2.1
  have zg := hz.2.2.1
  have zm := hz.2.2.2.1
  have zln := hz.2.2.2.2
  have vS := Vr_sg hv zm
  have zQ1 := fun i h1 h2 => (zNm i h1 h2).2.1
  refine wa_aload_n (pc' := 1) dX10_rowLength_0 rfl rfl rfl ?_
  refine wa_iconst (pc' := 2) dX10_rowLength_1 rfl ?_
  refine wa_putfield (pc' := 5) (j := 8) (w' := [zO _ [_, _, _, _, _, _, _, _, _, _, _, _, _, _, _, _, _, _, _, _, _, _, _, _], _, _, _, _, _, _, _, _, _]) zc_X10 lk_X10_46 dX10_rowLength_2 rfl (by decide) rfl rfl (Nat.le_of_ble_eq_true rfl) True.intro rfl ?_
  refine wa_aload_n (pc' := 6) dX10_rowLength_5 rfl rfl rfl ?_
  refine wa_iload_n (pc' := 7) dX10_rowLength_6 rfl rfl rfl ?_
  refine wa_iload_n (pc' := 8) dX10_rowLength_7 rfl rfl rfl ?_
  refine wa_iload_n (pc' := 9) dX10_rowLength_8 rfl rfl rfl ?_
  refine wa_gI (pc' := 12) (st := []) (k_X10_isRow s v pa sn tx ty si fl wi 0 ap nt rr rq rb wh md a b c l p r hs hv hl hp hr hwi) ok_X10_isRow lm_X10_223 dX10_rowLength_9 rfl (wM_ok _ _ _ _ _ _ _ _ _ _ _ _ _ _ _ _ _ _ _ _ _ _ ) (fun _ => rfl) (fun _ => wM_ok _ _ _ _ _ _ _ _ _ _ _ _ _ _ _ _ _ _ _ _ _ _ ) rfl rfl (Nat.le_of_ble_eq_true rfl) rfl rfl rfl rfl (by decide) (Nat.le_of_ble_eq_true rfl) rfl (by decide) (by decide) rfl rfl (fun x9 hx9 => ?_)
  show Wa _ _ _ _ _ _ _ _ [_] _ _ _
  obtain ⟨x8, hx8⟩ : ∃ q : zX3, q = x9 := ⟨x9, rfl⟩
  rw [← hx8]
  clear hx9
  refine wa_if_ne (tgt := 21) (pc' := 15) dX10_rowLength_12 (by decide) rfl (by split <;> omega) (fun c12 => ?_) (fun c12 => ?_)
  · refine wa_aload_n (pc' := 22) dX10_rowLength_21 rfl rfl rfl ?_
    refine wa_iload_n (pc' := 23) dX10_rowLength_22 rfl rfl rfl ?_
    refine wa_iload_n (pc' := 24) dX10_rowLength_23 rfl rfl rfl ?_
    refine wa_gI (pc' := 27) (st := []) (k_X10_laysPair s v pa sn tx ty si fl wi 0 ap nt rr rq rb wh md x8.1 x8.2.1 x8.2.2 l p hs hv hc.1 (by have := prF_300 s l wi; omega) hwi) ok_X10_laysPair lm_X10_226 dX10_rowLength_24 rfl (wM_ok _ _ _ _ _ _ _ _ _ _ _ _ _ _ _ _ _ _ _ _ _ _ ) (fun _ => rfl) (fun _ => wM_ok _ _ _ _ _ _ _ _ _ _ _ _ _ _ _ _ _ _ _ _ _ _ ) rfl rfl (Nat.le_of_ble_eq_true rfl) rfl rfl rfl rfl (by decide) (Nat.le_of_ble_eq_true rfl) rfl (by decide) (by decide) rfl rfl (fun x9 hx9 => ?_)
    show Wa _ _ _ _ _ _ _ _ [] _ _ _
    refine wa_iload_n (pc' := 28) dX10_rowLength_27 rfl rfl rfl ?_
    refine wa_if_ne (tgt := 38) (pc' := 31) dX10_rowLength_28 (by decide) rfl (by omega) (fun c28 => ?_) (fun c28 => ?_)
    · refine wa_aload_n (pc' := 39) dX10_rowLength_38 rfl rfl rfl ?_
      refine wa_getfield (pc' := 42) (j := 23) zc_X10 lk_X10_203 dX10_rowLength_39 rfl (by decide) rfl rfl ?_
      refine wa_iret dX10_rowLength_42 rfl (by decide) (by decide) ?_
      first | exact ⟨x9, trivial, by rw [if_pos (by omega), ← hx9.1.1], rfl⟩ | exact ⟨x9, trivial, by rw [if_neg (by omega), ← hx9.2.1], rfl⟩
    · refine wa_aload_n (pc' := 32) dX10_rowLength_31 rfl rfl rfl ?_
      refine wa_getfield (pc' := 35) (j := 22) zc_X10 lk_X10_200 dX10_rowLength_32 rfl (by decide) rfl rfl ?_
      refine wa_goto (pc' := 42) dX10_rowLength_35 (by decide) ?_
      refine wa_iret dX10_rowLength_42 rfl (by decide) (by decide) ?_
      first | exact ⟨x9, trivial, by rw [if_pos (by omega), ← hx9.1.1], rfl⟩ | exact ⟨x9, trivial, by rw [if_neg (by omega), ← hx9.2.1], rfl⟩
  · exact absurd hc (ite0 c12)

set_option maxRecDepth 10000 in
set_option maxHeartbeats 1000000 in
theorem k_X10_rowChar0 (s : zSh) (v pa : Int → Int) (sn : Int) (tx : Int → Int) (ty si fl wi th ap nt rr rq rb wh : Int) (md : Int → Int) (a b c : zRw) (l : Int) (p : Int) (r : Int) (k : Int) (hs : okW s) (hv : Vr s v) (hl : zin l) (hp : zin p) (hr : zin r) (hwi : zin wi)(hk : zin k) (hc : ¬ (((0 ≤ l ∧ l < s.2.2.2.1) ∧ (0 ≤ r ∧ r ≤ 1) ∧ (0 ≤ p ∧ p < prF s l wi)) ∧ 0 ≤ k)) : zMet q_X10_rowChar 8 0 0 [zR 0, zI l, zI p, zI r, zI k] (wM v pa sn tx ty si fl wi th ap nt rr rq rb wh md c.2 c.1 a.2 b.2 a.1 b.1) (fun o w' => ∃ x : zX3, (True) ∧ o = .inl (some (zI (0))) ∧ w' = (wM v pa sn tx ty si fl wi 1 ap nt rr rq rb wh md x.2.2.2 x.2.2.1 x.1.2 x.2.1.2 x.1.1 x.2.1.1)) := by
  refine z_introF (ls := [(0, _), (1, _), (2, _), (3, _), (4, _)]) (by decide +kernel) rfl (fun _ _ => rfl) (fun _ _ => Nat.le_of_ble_eq_true rfl) ?_
  obtain ⟨v0, v1, v2, v3, vT, vF, vL⟩ := id hv
  have hz := hs.1
  obtain ⟨z1, z2, zT1, z4, zF1, zL1⟩ := id hz.1
  have zNm := hz.2.1
  have zg := hz.2.2.1
  have zm := hz.2.2.2.1
  have zln := hz.2.2.2.2
  have vS := Vr_sg hv zm
  have zQ1 := fun i h1 h2 => (zNm i h1 h2).2.1
  refine wa_aload_n (pc' := 1) dX10_rowChar_0 rfl rfl rfl ?_
  refine wa_iconst (pc' := 2) dX10_rowChar_1 rfl ?_
  refine wa_putfield (pc' := 5) (j := 8) (w' := [zO _ [_, _, _, _, _, _, _, _, _, _, _, _, _, _, _, _, _, _, _, _, _, _, _, _], _, _, _, _, _, _, _, _, _]) zc_X10 lk_X10_46 dX10_rowChar_2 rfl (by decide) rfl rfl (Nat.le_of_ble_eq_true rfl) True.intro rfl ?_
  refine wa_aload_n (pc' := 6) dX10_rowChar_5 rfl rfl rfl ?_
  refine wa_iload_n (pc' := 7) dX10_rowChar_6 rfl rfl rfl ?_
  refine wa_iload_n (pc' := 8) dX10_rowChar_7 rfl rfl rfl ?_
  refine wa_iload_n (pc' := 9) dX10_rowChar_8 rfl rfl rfl ?_
  refine wa_gI (pc' := 12) (st := []) (k_X10_isRow s v pa sn tx ty si fl wi 0 ap nt rr rq rb wh md a b c l p r hs hv hl hp hr hwi) ok_X10_isRow lm_X10_223 dX10_rowChar_9 rfl (wM_ok _ _ _ _ _ _ _ _ _ _ _ _ _ _ _ _ _ _ _ _ _ _ ) (fun _ => rfl) (fun _ => wM_ok _ _ _ _ _ _ _ _ _ _ _ _ _ _ _ _ _ _ _ _ _ _ ) rfl rfl (Nat.le_of_ble_eq_true rfl) rfl rfl rfl rfl (by decide) (Nat.le_of_ble_eq_true rfl) rfl (by decide) (by decide) rfl rfl (fun x9 hx9 => ?_)
  show Wa _ _ _ _ _ _ _ _ [_] _ _ _
  obtain ⟨x8, hx8⟩ : ∃ q : zX3, q = x9 := ⟨x9, rfl⟩
  rw [← hx8]
  clear hx9
  refine wa_if_eq (tgt := 20) (pc' := 15) dX10_rowChar_12 (by decide) rfl (by split <;> omega) (fun c12 => ?_) (fun c12 => ?_)
  · refine wa_aload_n (pc' := 21) dX10_rowChar_20 rfl rfl rfl ?_
    refine wa_iconst (pc' := 22) dX10_rowChar_21 rfl ?_
    refine wa_iD2 (pc' := 25) (st := []) (k_X10_fails _ _ _ _ _ _ _ _ _ _ _ _ _ _ _ _ _ _ _ _ _ _ _ ) ok_X10_fails lm_X10_101 dX10_rowChar_22 rfl (wM_ok _ _ _ _ _ _ _ _ _ _ _ _ _ _ _ _ _ _ _ _ _ _) (Eq.refl 10) (wM_ok _ _ _ _ _ _ _ _ _ _ _ _ _ _ _ _ _ _ _ _ _ _) rfl rfl (Nat.le_of_ble_eq_true rfl) rfl rfl rfl rfl (by decide) (Nat.le_of_ble_eq_true rfl) rfl (by decide) (by decide) rfl rfl ?_
    show Wa _ _ _ _ _ _ _ _ [_] _ _ _
    refine wa_iret dX10_rowChar_25 rfl (by decide) (by decide) ?_
    exact ⟨x8, trivial, rfl, rfl⟩
  · have h12 := ite1 c12
    refine wa_iload (pc' := 17) dX10_rowChar_15 rfl rfl ?_
    refine wa_if_ge (tgt := 26) (pc' := 20) dX10_rowChar_17 (by decide) rfl (by omega) (fun c17 => ?_) (fun c17 => ?_)
    · exact absurd ⟨h12, c17⟩ hc
    · refine wa_aload_n (pc' := 21) dX10_rowChar_20 rfl rfl rfl ?_
      refine wa_iconst (pc' := 22) dX10_rowChar_21 rfl ?_
      refine wa_iD2 (pc' := 25) (st := []) (k_X10_fails _ _ _ _ _ _ _ _ _ _ _ _ _ _ _ _ _ _ _ _ _ _ _ ) ok_X10_fails lm_X10_101 dX10_rowChar_22 rfl (wM_ok _ _ _ _ _ _ _ _ _ _ _ _ _ _ _ _ _ _ _ _ _ _) (Eq.refl 10) (wM_ok _ _ _ _ _ _ _ _ _ _ _ _ _ _ _ _ _ _ _ _ _ _) rfl rfl (Nat.le_of_ble_eq_true rfl) rfl rfl rfl rfl (by decide) (Nat.le_of_ble_eq_true rfl) rfl (by decide) (by decide) rfl rfl ?_
      show Wa _ _ _ _ _ _ _ _ [_] _ _ _
      refine wa_iret dX10_rowChar_25 rfl (by decide) (by decide) ?_
      exact ⟨x8, trivial, rfl, rfl⟩

set_option maxRecDepth 10000 in
set_option maxHeartbeats 1000000 in
theorem k_X10_rowChar1 (s : zSh) (v pa : Int → Int) (sn : Int) (tx : Int → Int) (ty si fl wi th ap nt rr rq rb wh : Int) (md : Int → Int) (a b c : zRw) (l : Int) (p : Int) (r : Int) (k : Int) (hs : okW s) (hv : Vr s v) (hl : zin l) (hp : zin p) (hr : zin r) (hwi : zin wi)(hk : zin k) (hc : ((0 ≤ l ∧ l < s.2.2.2.1) ∧ (0 ≤ r ∧ r ≤ 1) ∧ (0 ≤ p ∧ p < prF s l wi)) ∧ 0 ≤ k) : zMet q_X10_rowChar 8 0 0 [zR 0, zI l, zI p, zI r, zI k] (wM v pa sn tx ty si fl wi th ap nt rr rq rb wh md c.2 c.1 a.2 b.2 a.1 b.1) (fun o w' => ∃ x : zX3, (True) ∧ o = .inl (some (zI (if r = 0 then (if k < (layE s l (itR s l wi p.toNat 0) (edF s l wi (itR s l wi p.toNat 0)) (yB s l (itR s l wi p.toNat 0))).1.1 then (layE s l (itR s l wi p.toNat 0) (edF s l wi (itR s l wi p.toNat 0)) (yB s l (itR s l wi p.toNat 0))).1.2 k else -1) else (if k < (layE s l (itR s l wi p.toNat 0) (edF s l wi (itR s l wi p.toNat 0)) (yB s l (itR s l wi p.toNat 0))).2.1.1 then (layE s l (itR s l wi p.toNat 0) (edF s l wi (itR s l wi p.toNat 0)) (yB s l (itR s l wi p.toNat 0))).2.1.2 k else -1)))) ∧ w' = (wM v pa sn tx ty si fl wi 0 ap nt rr rq rb wh md x.2.2.2 x.2.2.1 x.1.2 x.2.1.2 x.1.1 x.2.1.1)) := by
  refine z_introF (ls := [(0, _), (1, _), (2, _), (3, _), (4, _)]) (by decide +kernel) rfl (fun _ _ => rfl) (fun _ _ => Nat.le_of_ble_eq_true rfl) ?_
  obtain ⟨v0, v1, v2, v3, vT, vF, vL⟩ := id hv
  have hz := hs.1
  obtain ⟨z1, z2, zT1, z4, zF1, zL1⟩ := id hz.1
  have zNm := hz.2.1
  have zg := hz.2.2.1
  have zm := hz.2.2.2.1
  have zln := hz.2.2.2.2
  have vS := Vr_sg hv zm
  have zQ1 := fun i h1 h2 => (zNm i h1 h2).2.1
  refine wa_aload_n (pc' := 1) dX10_rowChar_0 rfl rfl rfl ?_
  refine wa_iconst (pc' := 2) dX10_rowChar_1 rfl ?_
  refine wa_putfield (pc' := 5) (j := 8) (w' := [zO _ [_, _, _, _, _, _, _, _, _, _, _, _, _, _, _, _, _, _, _, _, _, _, _, _], _, _, _, _, _, _, _, _, _]) zc_X10 lk_X10_46 dX10_rowChar_2 rfl (by decide) rfl rfl (Nat.le_of_ble_eq_true rfl) True.intro rfl ?_
  refine wa_aload_n (pc' := 6) dX10_rowChar_5 rfl rfl rfl ?_
  refine wa_iload_n (pc' := 7) dX10_rowChar_6 rfl rfl rfl ?_
  refine wa_iload_n (pc' := 8) dX10_rowChar_7 rfl rfl rfl ?_
  refine wa_iload_n (pc' := 9) dX10_rowChar_8 rfl rfl rfl ?_
  refine wa_gI (pc' := 12) (st := []) (k_X10_isRow s v pa sn tx ty si fl wi 0 ap nt rr rq rb wh md a b c l p r hs hv hl hp hr hwi) ok_X10_isRow lm_X10_223 dX10_rowChar_9 rfl (wM_ok _ _ _ _ _ _ _ _ _ _ _ _ _ _ _ _ _ _ _ _ _ _ ) (fun _ => rfl) (fun _ => wM_ok _ _ _ _ _ _ _ _ _ _ _ _ _ _ _ _ _ _ _ _ _ _ ) rfl rfl (Nat.le_of_ble_eq_true rfl) rfl rfl rfl rfl (by decide) (Nat.le_of_ble_eq_true rfl) rfl (by decide) (by decide) rfl rfl (fun x9 hx9 => ?_)
  show Wa _ _ _ _ _ _ _ _ [_] _ _ _
  obtain ⟨x8, hx8⟩ : ∃ q : zX3, q = x9 := ⟨x9, rfl⟩
  rw [← hx8]
  clear hx9
  refine wa_if_eq (tgt := 20) (pc' := 15) dX10_rowChar_12 (by decide) rfl (by split <;> omega) (fun c12 => ?_) (fun c12 => ?_)
  · exact absurd hc.1 (ite0 c12)
  · refine wa_iload (pc' := 17) dX10_rowChar_15 rfl rfl ?_
    refine wa_if_ge (tgt := 26) (pc' := 20) dX10_rowChar_17 (by decide) rfl (by omega) (fun c17 => ?_) (fun c17 => ?_)
    · refine wa_aload_n (pc' := 27) dX10_rowChar_26 rfl rfl rfl ?_
      refine wa_iload_n (pc' := 28) dX10_rowChar_27 rfl rfl rfl ?_
      refine wa_iload_n (pc' := 29) dX10_rowChar_28 rfl rfl rfl ?_
      refine wa_gI (pc' := 32) (st := []) (k_X10_laysPair s v pa sn tx ty si fl wi 0 ap nt rr rq rb wh md x8.1 x8.2.1 x8.2.2 l p hs hv hc.1.1 (by have := prF_300 s l wi; omega) hwi) ok_X10_laysPair lm_X10_226 dX10_rowChar_29 rfl (wM_ok _ _ _ _ _ _ _ _ _ _ _ _ _ _ _ _ _ _ _ _ _ _ ) (fun _ => rfl) (fun _ => wM_ok _ _ _ _ _ _ _ _ _ _ _ _ _ _ _ _ _ _ _ _ _ _ ) rfl rfl (Nat.le_of_ble_eq_true rfl) rfl rfl rfl rfl (by decide) (Nat.le_of_ble_eq_true rfl) rfl (by decide) (by decide) rfl rfl (fun x9 hx9 => ?_)
      show Wa _ _ _ _ _ _ _ _ [] _ _ _
      have t1 := zT1 l (by omega) (by omega)
      have t2 := zT1 (l + 1) (by omega) (by omega)
      have t3 := hs.2.2.1 l (by omega) (by omega)
      have ib := itR_b (s := s) (l := l) (w := wi) p.toNat 0 (by omega)
      have eb := edF_b (s := s) (l := l) (w := wi) (a := (itR s l wi p.toNat 0)) ib
      have sz := layE_sz (l := l) (a := (itR s l wi p.toNat 0)) (b := edF s l wi (itR s l wi p.toNat 0)) zNm z4.2 (by omega) (by omega) (yB_ok hs hc.1.1 ib.1)
      have q1 := hx9.1.1
      have q2 := hx9.2.1
      refine wa_iload_n (pc' := 33) dX10_rowChar_32 rfl rfl rfl ?_
      refine wa_if_ne (tgt := 57) (pc' := 36) dX10_rowChar_33 (by decide) rfl (by omega) (fun c33 => ?_) (fun c33 => ?_)
      · refine wa_iload (pc' := 59) dX10_rowChar_57 rfl rfl ?_
        refine wa_aload_n (pc' := 60) dX10_rowChar_59 rfl rfl rfl ?_
        refine wa_getfield (pc' := 63) (j := 23) zc_X10 lk_X10_203 dX10_rowChar_60 rfl (by decide) rfl rfl ?_
        refine wa_icmp_ge (tgt := 76) (pc' := 66) dX10_rowChar_63 (by decide) rfl (by omega) (by omega) (fun c63 => ?_) (fun c63 => ?_)
        · refine wa_iconst (pc' := 77) dX10_rowChar_76 rfl ?_
          refine wa_iret dX10_rowChar_77 rfl (by decide) (by decide) ?_
          first | exact ⟨x9, trivial, by rw [if_neg (by omega), if_pos (by omega), ← hx9.2.2 k (by omega) (by omega)], rfl⟩ | exact ⟨x9, trivial, by rw [if_neg (by omega), if_neg (by omega)], rfl⟩
        · refine wa_aload_n (pc' := 67) dX10_rowChar_66 rfl rfl rfl ?_
          refine wa_getfield (pc' := 70) (j := 21) zc_X10 lk_X10_43 dX10_rowChar_67 rfl (by decide) rfl rfl ?_
          refine wa_iload (pc' := 72) dX10_rowChar_70 rfl rfl ?_
          refine wa_iaload (pc' := 73) dX10_rowChar_72 rfl rfl (by omega) (by omega) (by decide) ?_
          refine wa_goto (pc' := 77) dX10_rowChar_73 (by decide) ?_
          refine wa_iret dX10_rowChar_77 rfl (by decide) (by decide) ?_
          first | exact ⟨x9, trivial, by rw [if_neg (by omega), if_pos (by omega), ← hx9.2.2 k (by omega) (by omega)], rfl⟩ | exact ⟨x9, trivial, by rw [if_neg (by omega), if_neg (by omega)], rfl⟩
      · refine wa_iload (pc' := 38) dX10_rowChar_36 rfl rfl ?_
        refine wa_aload_n (pc' := 39) dX10_rowChar_38 rfl rfl rfl ?_
        refine wa_getfield (pc' := 42) (j := 22) zc_X10 lk_X10_200 dX10_rowChar_39 rfl (by decide) rfl rfl ?_
        refine wa_icmp_ge (tgt := 55) (pc' := 45) dX10_rowChar_42 (by decide) rfl (by omega) (by omega) (fun c42 => ?_) (fun c42 => ?_)
        · refine wa_iconst (pc' := 56) dX10_rowChar_55 rfl ?_
          refine wa_iret dX10_rowChar_56 rfl (by decide) (by decide) ?_
          first | exact ⟨x9, trivial, by rw [if_pos (by omega), if_pos (by omega), ← hx9.1.2 k (by omega) (by omega)], rfl⟩ | exact ⟨x9, trivial, by rw [if_pos (by omega), if_neg (by omega)], rfl⟩
        · refine wa_aload_n (pc' := 46) dX10_rowChar_45 rfl rfl rfl ?_
          refine wa_getfield (pc' := 49) (j := 20) zc_X10 lk_X10_40 dX10_rowChar_46 rfl (by decide) rfl rfl ?_
          refine wa_iload (pc' := 51) dX10_rowChar_49 rfl rfl ?_
          refine wa_iaload (pc' := 52) dX10_rowChar_51 rfl rfl (by omega) (by omega) (by decide) ?_
          refine wa_goto (pc' := 56) dX10_rowChar_52 (by decide) ?_
          refine wa_iret dX10_rowChar_56 rfl (by decide) (by decide) ?_
          first | exact ⟨x9, trivial, by rw [if_pos (by omega), if_pos (by omega), ← hx9.1.2 k (by omega) (by omega)], rfl⟩ | exact ⟨x9, trivial, by rw [if_pos (by omega), if_neg (by omega)], rfl⟩
    · exact absurd hc.2 c17

