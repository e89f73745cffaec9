/-! there and back -/
theorem zokw_mono {n m : Nat} (h : n ≤ m) : ∀ {w : List zE}, zokw n w → zokw m w
  | [], _ => trivial
  | e :: w, hw => by
    refine ⟨?_, zokw_mono h hw.2⟩
    have h1 := hw.1
    rcases e with a | ⟨q, g⟩ | ⟨c, fs⟩
    · trivial
    · exact fun j k hj => Nat.lt_of_lt_of_le (h1 j k hj) h
    · show fs.all (zokv m) = true
      have h2 : fs.all (zokv n) = true := h1
      rw [List.all_eq_true] at h2 ⊢
      intro v hv
      have h3 := h2 v hv
      rcases v with x | x | _ | k | k <;> first | rfl | exact Nat.ble_eq_true_of_le (Nat.le_trans (zokv_lt h3) h)
theorem zokw_app {n : Nat} : ∀ {a b : List zE}, zokw n a → zokw n b → zokw n (a ++ b)
  | [], _, _, h => h
  | _ :: _, _, ha, hb => ⟨ha.1, zokw_app ha.2 hb⟩
/-- the sheet spelled anew -/
def spS (s : zSh) (se sg si : Int) : zSh := (s.1, s.2.1, (spR se sg si s.2.2.2.2.1.toNat 0 0 s.2.2.1).2, s.2.2.2.1, s.2.2.2.2.1, sg, s.2.2.2.2.2.2)
theorem spV_b {se sg : Int} (si p : Int) (hs : -6 ≤ sg ∧ sg ≤ 6) : spV se sg si p = 100 ∨ (-9 ≤ spV se sg si p ∧ spV se sg si p ≤ 14) := by
  unfold spV
  split
  · exact Or.inl rfl
  · exact Or.inr (spP_b p se si hs)
theorem spS_F (s : zSh) (hc : 0 ≤ s.2.2.2.2.1) (se sg si j : Int) : (spS s se sg si).2.2.1 j = if 0 ≤ j ∧ j < s.2.2.2.2.1 * 5 ∧ (j % 5 = 2 ∨ j % 5 = 4) then spV se sg si (s.2.2.1 j) else s.2.2.1 j := by
  show (spR se sg si s.2.2.2.2.1.toNat 0 0 s.2.2.1).2 j = _
  rw [spR_e]
  by_cases c : 0 ≤ j ∧ j < s.2.2.2.2.1 * 5 ∧ (j % 5 = 2 ∨ j % 5 = 4)
  · rw [if_pos c, if_pos (by omega)]
  · rw [if_neg c, if_neg (by omega)]
theorem spS_w {s : zSh} (hw : okW s) (se : Int) {sg : Int} (si : Int) (hs : -6 ≤ sg ∧ sg ≤ 6) : okW (spS s se sg si) := by
  have z4 := hw.1.1.2.2.2.1
  have zF := hw.1.1.2.2.2.2.1
  have hm := hw.1.2.2.2.1
  have e := spS_F s z4.1 se sg si
  have h := okW_F (s := sK s sg s.2.2.2.2.2.2) (F := (spS s se sg si).2.2.1) (okW_key hw hs hm) (fun i i0 i1 => ?_) (fun j j0 j1 => ?_) (fun i i0 i1 => ?_)
  · exact h
  · refine ⟨?_, ?_⟩
    · show (spS s se sg si).2.2.1 (i * 5 + 0) = s.2.2.1 (i * 5 + 0)
      rw [e, if_neg (by omega)]
    · show (spS s se sg si).2.2.1 (i * 5 + 1) = s.2.2.1 (i * 5 + 1)
      rw [e, if_neg (by omega)]
  · rw [e]
    split
    · have := spV_b (se := se) si (s.2.2.1 j) hs
      omega
    · exact zF j j0 j1
  · have i2 : i < s.2.2.2.2.1 := i1
    obtain ⟨n1, n2, n3⟩ := hw.1.2.1 i i0 i2
    show (-9 ≤ (spS s se sg si).2.2.1 (i * 5 + 2) ∧ (spS s se sg si).2.2.1 (i * 5 + 2) ≤ 14) ∧ (0 ≤ (spS s se sg si).2.2.1 (i * 5 + 3) ∧ (spS s se sg si).2.2.1 (i * 5 + 3) < 10) ∧ ((spS s se sg si).2.2.1 (i * 5 + 4) = 100 ∨ (-9 ≤ (spS s se sg si).2.2.1 (i * 5 + 4) ∧ (spS s se sg si).2.2.1 (i * 5 + 4) ≤ 14))
    rw [e, e, e, if_pos (by omega), if_neg (by omega), if_pos (by omega)]
    refine ⟨?_, n2, spV_b si _ hs⟩
    unfold spV
    rw [if_neg (by omega)]
    exact spP_b _ se si hs
/-- the chords' notes, raised -/
def rais (s s1 : zSh) (se : Int) : Prop := s1.2.2.2.2.1 = s.2.2.2.2.1 ∧ s1.2.2.2.2.2.2 = s.2.2.2.2.2.2 ∧ (∀ i : Int, 0 ≤ i → i < s.2.2.2.2.1 → pcl (s1.2.2.1 (i * 5 + 2)) = (7 * s.2.2.1 (i * 5 + 2) + se) % 12 ∧ ((s.2.2.1 (i * 5 + 4) = 100 ∧ s1.2.2.1 (i * 5 + 4) = 100) ∨ (¬ s.2.2.1 (i * 5 + 4) = 100 ∧ ¬ s1.2.2.1 (i * 5 + 4) = 100 ∧ pcl (s1.2.2.1 (i * 5 + 4)) = (7 * s.2.2.1 (i * 5 + 4) + se) % 12)))
def spld (s : zSh) (si : Int) : Prop := ∀ j : Int, 0 ≤ j → j < s.2.2.2.2.1 * 5 → (j % 5 = 2 ∨ j % 5 = 4) → spV 0 s.2.2.2.2.2.1 si (s.2.2.1 j) = s.2.2.1 j
theorem spS_r {s : zSh} (hw : okW s) (se : Int) {sg : Int} (si : Int) (hs : -6 ≤ sg ∧ sg ≤ 6) : rais s (spS s se sg si) se ∧ spld (spS s se sg si) si ∧ (spS s se sg si).2.2.2.2.2.1 = sg := by
  have z4 := hw.1.1.2.2.2.1
  have e := spS_F s z4.1 se sg si
  refine ⟨⟨rfl, rfl, fun i i0 i1 => ?_⟩, fun j j0 j1 j2 => ?_, rfl⟩
  · obtain ⟨n1, n2, n3⟩ := hw.1.2.1 i i0 i1
    rw [e, e, if_pos (by omega), if_pos (by omega)]
    unfold spV
    rw [if_neg (show ¬ s.2.2.1 (i * 5 + 2) = 100 by omega)]
    refine ⟨spP_p _ se sg si, ?_⟩
    by_cases c : s.2.2.1 (i * 5 + 4) = 100
    · rw [if_pos c]
      exact Or.inl ⟨c, rfl⟩
    · rw [if_neg c]
      have := spP_b (s.2.2.1 (i * 5 + 4)) se si hs
      exact Or.inr ⟨c, by omega, spP_p _ se sg si⟩
  · have j1 : j < s.2.2.2.2.1 * 5 := j1
    show spV 0 sg si ((spS s se sg si).2.2.1 j) = (spS s se sg si).2.2.1 j
    rw [e, if_pos ⟨j0, j1, j2⟩]
    exact spV_i (s.2.2.1 j) se si hs
theorem e_trans {t nm : zRw} {s D : zSh} {H : Nat → zSh} {ol ct : Int} {k : zKd} {y : zLy} {si fl wi : Int} {se sg : Int} (hse : -11 ≤ se ∧ se ≤ 11) (hct : ct < 8) (hsg : smS ((7 * tonO s.2.2.2.2.2.1 s.2.2.2.2.2.2 + se) % 12) s.2.2.2.2.2.2 fl = sg) : cs_transpose se (t, nm, s, D, H, ol, ct, k, y, si, fl, wi) = (.inl (some (zI sg)), (t, nm, spS s se sg si, D, hup H ((ol + ct) % 8).toNat s, ol, ct + 1, k, y, si, fl, wi)) := by
  subst hsg
  show (if se < -11 ∨ 11 < se then _ else _) = _
  rw [if_neg (show ¬ (se < -11 ∨ 11 < se) by omega), if_pos hct, if_pos hct]
  rfl
theorem e_respell {t nm : zRw} {s D : zSh} {H : Nat → zSh} {ol ct : Int} {k : zKd} {y : zLy} {si fl wi : Int} {v : Int} (hct : ct < 8) (hv : (spR 0 s.2.2.2.2.2.1 si s.2.2.2.2.1.toNat 0 0 s.2.2.1).1 = v) : cs_respell (t, nm, s, D, H, ol, ct, k, y, si, fl, wi) = (.inl (some (zI v)), (t, nm, spS s 0 s.2.2.2.2.2.1 si, D, hup H ((ol + ct) % 8).toNat s, ol, ct + 1, k, y, si, fl, wi)) := by
  subst hv
  show (_, (t, nm, _, D, hup H ((ol + ct) % 8).toNat s, (if ct < 8 then ol else (ol + 1) % 8), (if ct < 8 then ct + 1 else ct), k, y, si, fl, wi)) = _
  rw [if_pos hct, if_pos hct]
  rfl
theorem e_undo {t nm : zRw} {s D : zSh} {H : Nat → zSh} {ol ct : Int} {k : zKd} {y : zLy} {si fl wi : Int} {s1 : zSh} (hct : 0 < ct) (hs : H ((ol + (ct - 1)) % 8).toNat = s1) : cs_undo (t, nm, s, D, H, ol, ct, k, y, si, fl, wi) = (.inl (some (zI (ct - 1))), (t, nm, s1, D, H, ol, ct - 1, k, y, si, fl, wi)) := by
  subst hs
  exact if_neg (by omega)
theorem okC_u {t nm : zRw} {s D : zSh} {H : Nat → zSh} {ol ct : Int} {k : zKd} {y : zLy} {si fl wi : Int} (h : okC (t, nm, s, D, H, ol, ct, k, y, si, fl, wi)) {s1 : zSh} (hs : okZ s1) (hct : 0 < ct) : okC (t, nm, s1, D, H, ol, ct - 1, k, y, si, fl, wi) := ⟨h.1, h.2.1, hs, h.2.2.2.1, h.2.2.2.2.1, h.2.2.2.2.2.1, ⟨by omega, by have := h.2.2.2.2.2.2.1; omega⟩, h.2.2.2.2.2.2.2⟩
theorem rem12 {x : Int} (h : 0 ≤ x) : x.tmod 12 = x % 12 := Int.tmod_eq_emod_of_nonneg h
abbrev rr (f g : Int → Int) : List zE := [zA 0 40 f, zA 0 40 g]
theorem rr_53 (c : zCS) (f g : Int → Int) : (wCS c ++ rr f g)[53]? = some (zA 0 40 f) := rfl
theorem rr_54 (c : zCS) (f g : Int → Int) : (wCS c ++ rr f g)[54]? = some (zA 0 40 g) := rfl
theorem rr_s53 (c : zCS) (f g f1 : Int → Int) : (wCS c ++ rr f g).set 53 (zA 0 40 f1) = wCS c ++ rr f1 g := rfl
theorem rr_s54 (c : zCS) (f g g1 : Int → Int) : (wCS c ++ rr f g).set 54 (zA 0 40 g1) = wCS c ++ rr f g1 := rfl
def bV (b : Int) : Int := if b = 100 then 100 else pcl b
set_option maxRecDepth 10000 in
set_option maxHeartbeats 4000000 in
theorem l_tr316 (t nm : zRw) (s D : zSh) (H : Nat → zSh) (ol ct : Int) (k : zKd) (y : zLy) (si fl wi : Int) (H3 : Nat → zSh) (s1 s2 s3 : zSh) (f g : Int → Int) (i9 : Int) (h3 : okC (t, nm, s3, D, H3, ol, ct + 1 + 1 + 1, k, y, si, fl, wi)) (w0 : okW s) (w1 : okW s1) (w2 : okW s2) (h9 : 0 ≤ ct ∧ ct + 3 ≤ 8 ∧ 0 ≤ ol) (g2 : H3 ((ol + (ct + 1 + 1)) % 8).toNat = s2) (g1 : H3 ((ol + (ct + 1)) % 8).toNat = s1) (g0 : H3 ((ol + ct) % 8).toNat = s) (nc ns : Nat) (hnc : nc + 10 ≤ 1000) (hns : ns + 60 ≤ 6000) : Wa q_L_transposes 11 1000 6000 53 (zLP fun v c => v = zI 1 ∧ (∃ H1 : Nat → zSh, okC (t, nm, s, D, H1, ol, ct, k, y, si, fl, wi) ∧ c = (t, nm, s, D, H1, ol, ct, k, y, si, fl, wi))) 316 [(10, zI i9), (5, zJ (fpS s)), (0, zR 0)] [] (wCS (t, nm, s3, D, H3, ol, ct + 1 + 1 + 1, k, y, si, fl, wi) ++ rr f g) nc ns := by
  have q1 : okC (t, nm, s2, D, H3, ol, ct + 1 + 1 + 1 - 1, k, y, si, fl, wi) := okC_u h3 w2.1 (by omega)
  have q2 : okC (t, nm, s1, D, H3, ol, ct + 1 + 1 + 1 - 1 - 1, k, y, si, fl, wi) := okC_u q1 w1.1 (by omega)
  have q3 : okC (t, nm, s, D, H3, ol, ct + 1 + 1 + 1 - 1 - 1 - 1, k, y, si, fl, wi) := okC_u q2 w0.1 (by omega)
  have e3 : ct + 1 + 1 + 1 - 1 - 1 - 1 = ct := by omega
  refine wa_aload_n (pc' := 317) dL_transposes_316 rfl rfl rfl ?_
  refine wx_h (pc' := 320) (c0 := (t, nm, s3, D, H3, ol, ct + 1 + 1 + 1, k, y, si, fl, wi)) (r := _) (k_L_undone_v t nm s3 D H3 ol (ct + 1 + 1 + 1) k y si fl wi h3 (e_undo (s1 := s2) (by omega) (by rw [show ct + 1 + 1 + 1 - 1 = ct + 1 + 1 by omega]; exact g2))) (fun v9 c9 h9 => by rw [h9.1]; rfl) ok_L_undone rfl lm_L_166 dL_transposes_317 rfl rfl rfl (Nat.le_of_ble_eq_true rfl) (Nat.le_of_ble_eq_true rfl) (by omega) (by omega) (fun v9 c9 h9 => ?_)
  obtain ⟨rfl, rfl⟩ := h9
  refine wa_if_lt (tgt := 351) (pc' := 323) dL_transposes_320 (by decide) rfl (by omega) (fun c320 => ?_) (fun c320 => ?_)
  · exact absurd c320 (by omega)
  · refine wa_aload_n (pc' := 324) dL_transposes_323 rfl rfl rfl ?_
    refine wx_h (pc' := 327) (c0 := (t, nm, s2, D, H3, ol, ct + 1 + 1 + 1 - 1, k, y, si, fl, wi)) (r := _) (k_L_undone_v t nm s2 D H3 ol (ct + 1 + 1 + 1 - 1) k y si fl wi q1 (e_undo (s1 := s1) (by omega) (by rw [show ct + 1 + 1 + 1 - 1 - 1 = ct + 1 by omega]; exact g1))) (fun v9 c9 h9 => by rw [h9.1]; rfl) ok_L_undone rfl lm_L_166 dL_transposes_324 rfl rfl rfl (Nat.le_of_ble_eq_true rfl) (Nat.le_of_ble_eq_true rfl) (by omega) (by omega) (fun v9 c9 h9 => ?_)
    obtain ⟨rfl, rfl⟩ := h9
    refine wa_if_lt (tgt := 351) (pc' := 330) dL_transposes_327 (by decide) rfl (by omega) (fun c327 => ?_) (fun c327 => ?_)
    · exact absurd c327 (by omega)
    · refine wa_aload_n (pc' := 331) dL_transposes_330 rfl rfl rfl ?_
      refine wx_h (pc' := 334) (c0 := (t, nm, s1, D, H3, ol, ct + 1 + 1 + 1 - 1 - 1, k, y, si, fl, wi)) (r := _) (k_L_undone_v t nm s1 D H3 ol (ct + 1 + 1 + 1 - 1 - 1) k y si fl wi q2 (e_undo (s1 := s) (by omega) (by rw [show ct + 1 + 1 + 1 - 1 - 1 - 1 = ct by omega]; exact g0))) (fun v9 c9 h9 => by rw [h9.1]; rfl) ok_L_undone rfl lm_L_166 dL_transposes_331 rfl rfl rfl (Nat.le_of_ble_eq_true rfl) (Nat.le_of_ble_eq_true rfl) (by omega) (by omega) (fun v9 c9 h9 => ?_)
      obtain ⟨rfl, rfl⟩ := h9
      refine wa_if_lt (tgt := 351) (pc' := 337) dL_transposes_334 (by decide) rfl (by omega) (fun c334 => ?_) (fun c334 => ?_)
      · exact absurd c334 (by omega)
      · refine wa_aload_n (pc' := 338) dL_transposes_337 rfl rfl rfl ?_
        refine wx_x (pc' := 341) (c0 := (t, nm, s, D, H3, ol, ct + 1 + 1 + 1 - 1 - 1 - 1, k, y, si, fl, wi)) (c1 := (t, nm, s, D, H3, ol, ct + 1 + 1 + 1 - 1 - 1 - 1, k, y, si, fl, wi)) (r := _) (k_X9_fingerprint t nm s D H3 ol (ct + 1 + 1 + 1 - 1 - 1 - 1) k y si fl wi q3) (e_fp) rfl ok_X9_fingerprint lm_L_86 dL_transposes_338 rfl rfl rfl rfl rfl (Nat.le_of_ble_eq_true rfl) (Nat.le_of_ble_eq_true rfl) rfl (by omega) (by omega) ?_
        refine wa_lload (pc' := 343) dL_transposes_341 rfl rfl ?_
        refine wa_lcmpE (pc' := 344) dL_transposes_343 rfl rfl ?_
        refine wa_if_ne (tgt := 351) (pc' := 347) dL_transposes_344 (by decide) rfl (by omega) (fun c344 => ?_) (fun c344 => ?_)
        · exact absurd c344 (by omega)
        · refine wa_iconst (pc' := 348) dL_transposes_347 rfl ?_
          refine wa_goto (pc' := 352) dL_transposes_348 (by decide) ?_
          refine wa_sub [] rfl ?_
          refine wa_drop (Nat.le_refl _) (wCS_ok _) rfl rfl ?_
          refine wa_zret dL_transposes_352 rfl (by omega) (by omega) (by omega) ?_
          refine zLP_i ⟨rfl, H3, ?_, ?_⟩ rfl
          · rw [← e3]
            exact q3
          · rw [e3]
set_option maxRecDepth 10000 in
set_option maxHeartbeats 4000000 in
theorem l_tr286 {B1 B2 : Nat} {Post : zP → List zE → Prop} (t nm : zRw) (s D : zSh) (H : Nat → zSh) (ol ct : Int) (k : zKd) (y : zLy) (si fl wi : Int) (H3 : Nat → zSh) (s3 : zSh) (f g : Int → Int) (h3 : okC (t, nm, s3, D, H3, ol, ct + 1 + 1 + 1, k, y, si, fl, wi)) (hc3 : s3.2.2.2.2.1 = s.2.2.2.2.1) (h40 : 0 ≤ s.2.2.2.2.1 ∧ s.2.2.2.2.1 ≤ 40) (hf : ∀ i : Int, 0 ≤ i → i < s.2.2.2.2.1 → f i = pcl (s3.2.2.1 (i * 5 + 2))) (hB1 : B1 ≤ 1000) (hB2 : B2 ≤ 6000) (K : ∀ (i9 : Int) (nc1 ns1 : Nat), nc1 ≤ B1 → ns1 ≤ B2 → Wa q_L_transposes 11 1000 6000 53 Post 316 [(10, zI i9), (5, zJ (fpS s)), (0, zR 0)] [] (wCS (t, nm, s3, D, H3, ol, ct + 1 + 1 + 1, k, y, si, fl, wi) ++ rr f g) nc1 ns1) : ∀ (m : Nat) (i9 : Int) (nc ns : Nat), 0 ≤ i9 → i9 + m = s.2.2.2.2.1 → nc + m ≤ B1 → ns + 6 * m ≤ B2 → Wa q_L_transposes 11 1000 6000 53 Post 286 [(10, zI i9), (3, zR 53), (4, zR 54), (2, zI s.2.2.2.2.1), (5, zJ (fpS s)), (0, zR 0)] [] (wCS (t, nm, s3, D, H3, ol, ct + 1 + 1 + 1, k, y, si, fl, wi) ++ rr f g) nc ns := by
  intro m
  induction m with
  | zero =>
    intro i9 nc ns h0 h1 hnc hns
    refine wa_iload (pc' := 288) dL_transposes_286 rfl rfl ?_
    refine wa_iload_n (pc' := 289) dL_transposes_288 rfl rfl rfl ?_
    refine wa_icmp_ge (tgt := 316) (pc' := 292) dL_transposes_289 (by decide) rfl (by omega) (by omega) (fun c289 => ?_) (fun c289 => ?_)
    · refine wa_sub [0, 4, 5] rfl ?_
      exact K i9 _ _ (by omega) (by omega)
    · exact absurd c289 (by omega)
  | succ m ih =>
    intro i9 nc ns h0 h1 hnc hns
    obtain ⟨n1, n2, n3⟩ := h3.2.2.1.2.1 i9 h0 (by omega)
    have hp := pcl_b (s3.2.2.1 (i9 * 5 + 2))
    have hf9 := hf i9 h0 (by omega)
    refine wa_iload (pc' := 288) dL_transposes_286 rfl rfl ?_
    refine wa_iload_n (pc' := 289) dL_transposes_288 rfl rfl rfl ?_
    refine wa_icmp_ge (tgt := 316) (pc' := 292) dL_transposes_289 (by decide) rfl (by omega) (by omega) (fun c289 => ?_) (fun c289 => ?_)
    · exact absurd c289 (by omega)
    · refine wa_aload_n (pc' := 293) dL_transposes_292 rfl rfl rfl ?_
      refine wa_iload (pc' := 295) dL_transposes_293 rfl rfl ?_
      refine wx_x (pc' := 298) (c0 := (t, nm, s3, D, H3, ol, ct + 1 + 1 + 1, k, y, si, fl, wi)) (c1 := (t, nm, s3, D, H3, ol, ct + 1 + 1 + 1, k, y, si, fl, wi)) (r := _) (k_X9_rootOf t nm s3 D H3 ol (ct + 1 + 1 + 1) k y si fl wi h3 i9 ⟨by omega, by omega⟩) (e_rootOf (by omega) rfl) rfl ok_X9_rootOf lm_L_63 dL_transposes_295 rfl rfl rfl rfl rfl (Nat.le_of_ble_eq_true rfl) (Nat.le_of_ble_eq_true rfl) rfl (by omega) (by omega) ?_
      refine wx_n (pc' := 301) (k_L_pitch (s3.2.2.1 (i9 * 5 + 2)) (by omega)) rfl ok_L_pitch lm_L_135 dL_transposes_298 rfl rfl rfl (Nat.le_of_ble_eq_true rfl) (Nat.le_of_ble_eq_true rfl) rfl (by omega) (by omega) ?_
      refine wa_aload_n (pc' := 302) dL_transposes_301 rfl rfl rfl ?_
      refine wa_iload (pc' := 304) dL_transposes_302 rfl rfl ?_
      refine wa_iaload (pc' := 305) dL_transposes_304 rfl (rr_53 _ f g) (by omega) (by omega) (by decide) ?_
      refine wa_icmp_eq (tgt := 310) (pc' := 308) dL_transposes_305 (by decide) rfl (by omega) (by omega) (fun c305 => ?_) (fun c305 => ?_)
      · refine wa_iinc (pc' := 313) (ls' := [(10, _), (3, _), (4, _), (2, _), (5, _), (0, _)]) dL_transposes_310 rfl rfl (by decide) rfl ?_
        refine wa_goto (pc' := 286) dL_transposes_313 (by decide) ?_
        refine wa_sub [0, 1, 2, 3, 4, 5] rfl ?_
        exact ih (i9 + 1) _ _ (by omega) (by omega) (by omega) (by omega)
      · exact absurd c305 (by omega)
set_option maxRecDepth 10000 in
set_option maxHeartbeats 4000000 in
theorem l_tr147 {B1 B2 : Nat} {Post : zP → List zE → Prop} (t nm : zRw) (s D : zSh) (H : Nat → zSh) (ol ct : Int) (k : zKd) (y : zLy) (si fl wi : Int) (H1 : Nat → zSh) (s1 : zSh) (f g : Int → Int) (tn by9 : Int) (hby : -11 ≤ by9 ∧ by9 ≤ 11) (hw : okW s) (h1 : okC (t, nm, s1, D, H1, ol, ct + 1, k, y, si, fl, wi)) (hra : rais s s1 by9) (h40 : 0 ≤ s.2.2.2.2.1 ∧ s.2.2.2.2.1 ≤ 40) (hfg : ∀ i : Int, 0 ≤ i → i < s.2.2.2.2.1 → f i = pcl (s.2.2.1 (i * 5 + 2)) ∧ g i = bV (s.2.2.1 (i * 5 + 4))) (hB1 : B1 ≤ 1000) (hB2 : B2 ≤ 6000) (K : ∀ (i9 : Int) (nc1 ns1 : Nat), nc1 ≤ B1 → ns1 ≤ B2 → Wa q_L_transposes 11 1000 6000 53 Post 251 [(10, zI i9), (3, zR 53), (4, zR 54), (2, zI s.2.2.2.2.1), (5, zJ (fpS s)), (7, zI tn), (0, zR 0), (1, zI by9)] [] (wCS (t, nm, s1, D, H1, ol, ct + 1, k, y, si, fl, wi) ++ rr f g) nc1 ns1) : ∀ (m : Nat) (i9 : Int) (nc ns : Nat), 0 ≤ i9 → i9 + m = s.2.2.2.2.1 → nc + 2 * m ≤ B1 → ns + 12 * m ≤ B2 → Wa q_L_transposes 11 1000 6000 53 Post 147 [(10, zI i9), (3, zR 53), (4, zR 54), (2, zI s.2.2.2.2.1), (5, zJ (fpS s)), (7, zI tn), (0, zR 0), (1, zI by9)] [] (wCS (t, nm, s1, D, H1, ol, ct + 1, k, y, si, fl, wi) ++ rr f g) nc ns := by
  have hc1 := hra.1
  intro m
  induction m with
  | zero =>
    intro i9 nc ns h0 h9 hnc hns
    refine wa_iload (pc' := 149) dL_transposes_147 rfl rfl ?_
    refine wa_iload_n (pc' := 150) dL_transposes_149 rfl rfl rfl ?_
    refine wa_icmp_ge (tgt := 251) (pc' := 153) dL_transposes_150 (by decide) rfl (by omega) (by omega) (fun c150 => ?_) (fun c150 => ?_)
    · exact K i9 _ _ (by omega) (by omega)
    · exact absurd c150 (by omega)
  | succ m ih =>
    intro i9 nc ns h0 h9 hnc hns
    obtain ⟨n1, n2, n3⟩ := h1.2.2.1.2.1 i9 h0 (by omega)
    obtain ⟨m1, m2, m3⟩ := hw.1.2.1 i9 h0 (by omega)
    obtain ⟨f1, g1⟩ := hfg i9 h0 (by omega)
    obtain ⟨r1, r2⟩ := hra.2.2 i9 h0 (by omega)
    have hp := pcl_b (s.2.2.1 (i9 * 5 + 2))
    have hp1 := pcl_b (s1.2.2.1 (i9 * 5 + 2))
    have hp4 := pcl_b (s.2.2.1 (i9 * 5 + 4))
    have hp5 := pcl_b (s1.2.2.1 (i9 * 5 + 4))
    have hpd : pcl (s.2.2.1 (i9 * 5 + 2)) = 7 * s.2.2.1 (i9 * 5 + 2) % 12 := rfl
    have hpe : pcl (s.2.2.1 (i9 * 5 + 4)) = 7 * s.2.2.1 (i9 * 5 + 4) % 12 := rfl
    have hg : (s.2.2.1 (i9 * 5 + 4) = 100 ∧ g i9 = 100) ∨ (¬ s.2.2.1 (i9 * 5 + 4) = 100 ∧ g i9 = pcl (s.2.2.1 (i9 * 5 + 4))) := by
      rw [g1]
      unfold bV
      by_cases c : s.2.2.1 (i9 * 5 + 4) = 100
      · exact Or.inl ⟨c, if_pos c⟩
      · exact Or.inr ⟨c, if_neg c⟩
    refine wa_iload (pc' := 149) dL_transposes_147 rfl rfl ?_
    refine wa_iload_n (pc' := 150) dL_transposes_149 rfl rfl rfl ?_
    refine wa_icmp_ge (tgt := 251) (pc' := 153) dL_transposes_150 (by decide) rfl (by omega) (by omega) (fun c150 => ?_) (fun c150 => ?_)
    · exact absurd c150 (by omega)
    · refine wa_aload_n (pc' := 154) dL_transposes_153 rfl rfl rfl ?_
      refine wa_iload (pc' := 156) dL_transposes_154 rfl rfl ?_
      refine wx_x (pc' := 159) (c0 := (t, nm, s1, D, H1, ol, ct + 1, k, y, si, fl, wi)) (c1 := (t, nm, s1, D, H1, ol, ct + 1, k, y, si, fl, wi)) (r := _) (k_X9_bassOf t nm s1 D H1 ol (ct + 1) k y si fl wi h1 i9 ⟨by omega, by omega⟩) (e_bassOf (by omega) rfl) rfl ok_X9_bassOf lm_L_160 dL_transposes_156 rfl rfl rfl rfl rfl (Nat.le_of_ble_eq_true rfl) (Nat.le_of_ble_eq_true rfl) rfl (by omega) (by omega) ?_
      refine wa_istore (pc' := 161) (ls' := [(11, _), (10, _), (3, _), (4, _), (2, _), (5, _), (7, _), (0, _), (1, _)]) dL_transposes_159 rfl (by decide) rfl ?_
      refine wa_aload_n (pc' := 162) dL_transposes_161 rfl rfl rfl ?_
      refine wa_iload (pc' := 164) dL_transposes_162 rfl rfl ?_
      refine wx_x (pc' := 167) (c0 := (t, nm, s1, D, H1, ol, ct + 1, k, y, si, fl, wi)) (c1 := (t, nm, s1, D, H1, ol, ct + 1, k, y, si, fl, wi)) (r := _) (k_X9_rootOf t nm s1 D H1 ol (ct + 1) k y si fl wi h1 i9 ⟨by omega, by omega⟩) (e_rootOf (by omega) rfl) rfl ok_X9_rootOf lm_L_63 dL_transposes_164 rfl rfl rfl rfl rfl (Nat.le_of_ble_eq_true rfl) (Nat.le_of_ble_eq_true rfl) rfl (by omega) (by omega) ?_
      refine wx_n (pc' := 170) (k_L_pitch (s1.2.2.1 (i9 * 5 + 2)) (by omega)) rfl ok_L_pitch lm_L_135 dL_transposes_167 rfl rfl rfl (Nat.le_of_ble_eq_true rfl) (Nat.le_of_ble_eq_true rfl) rfl (by omega) (by omega) ?_
      refine wa_aload_n (pc' := 171) dL_transposes_170 rfl rfl rfl ?_
      refine wa_iload (pc' := 173) dL_transposes_171 rfl rfl ?_
      refine wa_iaload (pc' := 174) dL_transposes_173 rfl (rr_53 _ f g) (by omega) (by omega) (by decide) ?_
      refine wa_iload_n (pc' := 175) dL_transposes_174 rfl rfl rfl ?_
      refine wa_iadd (pc' := 176) dL_transposes_175 rfl ?_
      refine wa_bipush (pc' := 178) dL_transposes_176 rfl rfl ?_
      refine wa_iadd (pc' := 179) dL_transposes_178 rfl ?_
      refine wa_bipush (pc' := 181) dL_transposes_179 rfl rfl ?_
      refine wa_irem (pc' := 182) dL_transposes_181 rfl ⟨by omega, by omega⟩ ⟨by omega, by omega⟩ (by omega) (z_tdiv ⟨by omega, by omega⟩ (by omega)) ?_
      rw [rem12 (x := f i9 + by9 + 12) (by omega)]
      refine wa_icmp_ne (tgt := 243) (pc' := 185) dL_transposes_182 (by decide) rfl (by omega) (by omega) (fun c182 => ?_) (fun c182 => ?_)
      · exact absurd c182 (by omega)
      · refine wa_iload (pc' := 187) dL_transposes_185 rfl rfl ?_
        refine wa_bipush (pc' := 189) dL_transposes_187 rfl rfl ?_
        refine wa_icmp_ne (tgt := 196) (pc' := 192) dL_transposes_189 (by decide) rfl (by omega) (by omega) (fun c189 => ?_) (fun c189 => ?_)
        · refine wa_iconst (pc' := 197) dL_transposes_196 rfl ?_
          refine wa_aload (pc' := 199) dL_transposes_197 rfl rfl ?_
          refine wa_iload (pc' := 201) dL_transposes_199 rfl rfl ?_
          refine wa_iaload (pc' := 202) dL_transposes_201 rfl (rr_54 _ f g) (by omega) (by omega) (by decide) ?_
          refine wa_bipush (pc' := 204) dL_transposes_202 rfl rfl ?_
          refine wa_icmp_ne (tgt := 211) (pc' := 207) dL_transposes_204 (by decide) rfl (by omega) (by omega) (fun c204 => ?_) (fun c204 => ?_)
          · refine wa_iconst (pc' := 212) dL_transposes_211 rfl ?_
            refine wa_icmp_ne (tgt := 243) (pc' := 215) dL_transposes_212 (by decide) rfl (by omega) (by omega) (fun c212 => ?_) (fun c212 => ?_)
            · exact absurd c212 (by omega)
            · refine wa_iload (pc' := 217) dL_transposes_215 rfl rfl ?_
              refine wa_bipush (pc' := 219) dL_transposes_217 rfl rfl ?_
              refine wa_icmp_eq (tgt := 245) (pc' := 222) dL_transposes_219 (by decide) rfl (by omega) (by omega) (fun c219 => ?_) (fun c219 => ?_)
              · refine wa_iinc (pc' := 248) (ls' := [(10, _), (11, _), (3, _), (4, _), (2, _), (5, _), (7, _), (0, _), (1, _)]) dL_transposes_245 rfl rfl (by decide) rfl ?_
                refine wa_goto (pc' := 147) dL_transposes_248 (by decide) ?_
                refine wa_sub [0, 2, 3, 4, 5, 6, 7, 8] rfl ?_
                exact ih (i9 + 1) _ _ (by omega) (by omega) (by omega) (by omega)
              · refine wa_iload (pc' := 224) dL_transposes_222 rfl rfl ?_
                refine wx_n (pc' := 227) (k_L_pitch (s1.2.2.1 (i9 * 5 + 4)) (by omega)) rfl ok_L_pitch lm_L_135 dL_transposes_224 rfl rfl rfl (Nat.le_of_ble_eq_true rfl) (Nat.le_of_ble_eq_true rfl) rfl (by omega) (by omega) ?_
                refine wa_aload (pc' := 229) dL_transposes_227 rfl rfl ?_
                refine wa_iload (pc' := 231) dL_transposes_229 rfl rfl ?_
                refine wa_iaload (pc' := 232) dL_transposes_231 rfl (rr_54 _ f g) (by omega) (by omega) (by decide) ?_
                refine wa_iload_n (pc' := 233) dL_transposes_232 rfl rfl rfl ?_
                refine wa_iadd (pc' := 234) dL_transposes_233 rfl ?_
                refine wa_bipush (pc' := 236) dL_transposes_234 rfl rfl ?_
                refine wa_iadd (pc' := 237) dL_transposes_236 rfl ?_
                refine wa_bipush (pc' := 239) dL_transposes_237 rfl rfl ?_
                refine wa_irem (pc' := 240) dL_transposes_239 rfl ⟨by omega, by omega⟩ ⟨by omega, by omega⟩ (by omega) (z_tdiv ⟨by omega, by omega⟩ (by omega)) ?_
                rw [rem12 (x := g i9 + by9 + 12) (by omega)]
                refine wa_icmp_eq (tgt := 245) (pc' := 243) dL_transposes_240 (by decide) rfl (by omega) (by omega) (fun c240 => ?_) (fun c240 => ?_)
                · refine wa_iinc (pc' := 248) (ls' := [(10, _), (11, _), (3, _), (4, _), (2, _), (5, _), (7, _), (0, _), (1, _)]) dL_transposes_245 rfl rfl (by decide) rfl ?_
                  refine wa_goto (pc' := 147) dL_transposes_248 (by decide) ?_
                  refine wa_sub [0, 2, 3, 4, 5, 6, 7, 8] rfl ?_
                  exact ih (i9 + 1) _ _ (by omega) (by omega) (by omega) (by omega)
                · exact absurd c240 (by omega)
          · refine wa_iconst (pc' := 208) dL_transposes_207 rfl ?_
            refine wa_goto (pc' := 212) dL_transposes_208 (by decide) ?_
            refine wa_icmp_ne (tgt := 243) (pc' := 215) dL_transposes_212 (by decide) rfl (by omega) (by omega) (fun c212 => ?_) (fun c212 => ?_)
            · exact absurd c212 (by omega)
            · refine wa_iload (pc' := 217) dL_transposes_215 rfl rfl ?_
              refine wa_bipush (pc' := 219) dL_transposes_217 rfl rfl ?_
              refine wa_icmp_eq (tgt := 245) (pc' := 222) dL_transposes_219 (by decide) rfl (by omega) (by omega) (fun c219 => ?_) (fun c219 => ?_)
              · refine wa_iinc (pc' := 248) (ls' := [(10, _), (11, _), (3, _), (4, _), (2, _), (5, _), (7, _), (0, _), (1, _)]) dL_transposes_245 rfl rfl (by decide) rfl ?_
                refine wa_goto (pc' := 147) dL_transposes_248 (by decide) ?_
                refine wa_sub [0, 2, 3, 4, 5, 6, 7, 8] rfl ?_
                exact ih (i9 + 1) _ _ (by omega) (by omega) (by omega) (by omega)
              · refine wa_iload (pc' := 224) dL_transposes_222 rfl rfl ?_
                refine wx_n (pc' := 227) (k_L_pitch (s1.2.2.1 (i9 * 5 + 4)) (by omega)) rfl ok_L_pitch lm_L_135 dL_transposes_224 rfl rfl rfl (Nat.le_of_ble_eq_true rfl) (Nat.le_of_ble_eq_true rfl) rfl (by omega) (by omega) ?_
                refine wa_aload (pc' := 229) dL_transposes_227 rfl rfl ?_
                refine wa_iload (pc' := 231) dL_transposes_229 rfl rfl ?_
                refine wa_iaload (pc' := 232) dL_transposes_231 rfl (rr_54 _ f g) (by omega) (by omega) (by decide) ?_
                refine wa_iload_n (pc' := 233) dL_transposes_232 rfl rfl rfl ?_
                refine wa_iadd (pc' := 234) dL_transposes_233 rfl ?_
                refine wa_bipush (pc' := 236) dL_transposes_234 rfl rfl ?_
                refine wa_iadd (pc' := 237) dL_transposes_236 rfl ?_
                refine wa_bipush (pc' := 239) dL_transposes_237 rfl rfl ?_
                refine wa_irem (pc' := 240) dL_transposes_239 rfl ⟨by omega, by omega⟩ ⟨by omega, by omega⟩ (by omega) (z_tdiv ⟨by omega, by omega⟩ (by omega)) ?_
                rw [rem12 (x := g i9 + by9 + 12) (by omega)]
                refine wa_icmp_eq (tgt := 245) (pc' := 243) dL_transposes_240 (by decide) rfl (by omega) (by omega) (fun c240 => ?_) (fun c240 => ?_)
                · refine wa_iinc (pc' := 248) (ls' := [(10, _), (11, _), (3, _), (4, _), (2, _), (5, _), (7, _), (0, _), (1, _)]) dL_transposes_245 rfl rfl (by decide) rfl ?_
                  refine wa_goto (pc' := 147) dL_transposes_248 (by decide) ?_
                  refine wa_sub [0, 2, 3, 4, 5, 6, 7, 8] rfl ?_
                  exact ih (i9 + 1) _ _ (by omega) (by omega) (by omega) (by omega)
                · exact absurd c240 (by omega)
        · refine wa_iconst (pc' := 193) dL_transposes_192 rfl ?_
          refine wa_goto (pc' := 197) dL_transposes_193 (by decide) ?_
          refine wa_aload (pc' := 199) dL_transposes_197 rfl rfl ?_
          refine wa_iload (pc' := 201) dL_transposes_199 rfl rfl ?_
          refine wa_iaload (pc' := 202) dL_transposes_201 rfl (rr_54 _ f g) (by omega) (by omega) (by decide) ?_
          refine wa_bipush (pc' := 204) dL_transposes_202 rfl rfl ?_
          refine wa_icmp_ne (tgt := 211) (pc' := 207) dL_transposes_204 (by decide) rfl (by omega) (by omega) (fun c204 => ?_) (fun c204 => ?_)
          · refine wa_iconst (pc' := 212) dL_transposes_211 rfl ?_
            refine wa_icmp_ne (tgt := 243) (pc' := 215) dL_transposes_212 (by decide) rfl (by omega) (by omega) (fun c212 => ?_) (fun c212 => ?_)
            · exact absurd c212 (by omega)
            · refine wa_iload (pc' := 217) dL_transposes_215 rfl rfl ?_
              refine wa_bipush (pc' := 219) dL_transposes_217 rfl rfl ?_
              refine wa_icmp_eq (tgt := 245) (pc' := 222) dL_transposes_219 (by decide) rfl (by omega) (by omega) (fun c219 => ?_) (fun c219 => ?_)
              · refine wa_iinc (pc' := 248) (ls' := [(10, _), (11, _), (3, _), (4, _), (2, _), (5, _), (7, _), (0, _), (1, _)]) dL_transposes_245 rfl rfl (by decide) rfl ?_
                refine wa_goto (pc' := 147) dL_transposes_248 (by decide) ?_
                refine wa_sub [0, 2, 3, 4, 5, 6, 7, 8] rfl ?_
                exact ih (i9 + 1) _ _ (by omega) (by omega) (by omega) (by omega)
              · refine wa_iload (pc' := 224) dL_transposes_222 rfl rfl ?_
                refine wx_n (pc' := 227) (k_L_pitch (s1.2.2.1 (i9 * 5 + 4)) (by omega)) rfl ok_L_pitch lm_L_135 dL_transposes_224 rfl rfl rfl (Nat.le_of_ble_eq_true rfl) (Nat.le_of_ble_eq_true rfl) rfl (by omega) (by omega) ?_
                refine wa_aload (pc' := 229) dL_transposes_227 rfl rfl ?_
                refine wa_iload (pc' := 231) dL_transposes_229 rfl rfl ?_
                refine wa_iaload (pc' := 232) dL_transposes_231 rfl (rr_54 _ f g) (by omega) (by omega) (by decide) ?_
                refine wa_iload_n (pc' := 233) dL_transposes_232 rfl rfl rfl ?_
                refine wa_iadd (pc' := 234) dL_transposes_233 rfl ?_
                refine wa_bipush (pc' := 236) dL_transposes_234 rfl rfl ?_
                refine wa_iadd (pc' := 237) dL_transposes_236 rfl ?_
                refine wa_bipush (pc' := 239) dL_transposes_237 rfl rfl ?_
                refine wa_irem (pc' := 240) dL_transposes_239 rfl ⟨by omega, by omega⟩ ⟨by omega, by omega⟩ (by omega) (z_tdiv ⟨by omega, by omega⟩ (by omega)) ?_
                rw [rem12 (x := g i9 + by9 + 12) (by omega)]
                refine wa_icmp_eq (tgt := 245) (pc' := 243) dL_transposes_240 (by decide) rfl (by omega) (by omega) (fun c240 => ?_) (fun c240 => ?_)
                · refine wa_iinc (pc' := 248) (ls' := [(10, _), (11, _), (3, _), (4, _), (2, _), (5, _), (7, _), (0, _), (1, _)]) dL_transposes_245 rfl rfl (by decide) rfl ?_
                  refine wa_goto (pc' := 147) dL_transposes_248 (by decide) ?_
                  refine wa_sub [0, 2, 3, 4, 5, 6, 7, 8] rfl ?_
                  exact ih (i9 + 1) _ _ (by omega) (by omega) (by omega) (by omega)
                · exact absurd c240 (by omega)
          · refine wa_iconst (pc' := 208) dL_transposes_207 rfl ?_
            refine wa_goto (pc' := 212) dL_transposes_208 (by decide) ?_
            refine wa_icmp_ne (tgt := 243) (pc' := 215) dL_transposes_212 (by decide) rfl (by omega) (by omega) (fun c212 => ?_) (fun c212 => ?_)
            · exact absurd c212 (by omega)
            · refine wa_iload (pc' := 217) dL_transposes_215 rfl rfl ?_
              refine wa_bipush (pc' := 219) dL_transposes_217 rfl rfl ?_
              refine wa_icmp_eq (tgt := 245) (pc' := 222) dL_transposes_219 (by decide) rfl (by omega) (by omega) (fun c219 => ?_) (fun c219 => ?_)
              · refine wa_iinc (pc' := 248) (ls' := [(10, _), (11, _), (3, _), (4, _), (2, _), (5, _), (7, _), (0, _), (1, _)]) dL_transposes_245 rfl rfl (by decide) rfl ?_
                refine wa_goto (pc' := 147) dL_transposes_248 (by decide) ?_
                refine wa_sub [0, 2, 3, 4, 5, 6, 7, 8] rfl ?_
                exact ih (i9 + 1) _ _ (by omega) (by omega) (by omega) (by omega)
              · refine wa_iload (pc' := 224) dL_transposes_222 rfl rfl ?_
                refine wx_n (pc' := 227) (k_L_pitch (s1.2.2.1 (i9 * 5 + 4)) (by omega)) rfl ok_L_pitch lm_L_135 dL_transposes_224 rfl rfl rfl (Nat.le_of_ble_eq_true rfl) (Nat.le_of_ble_eq_true rfl) rfl (by omega) (by omega) ?_
                refine wa_aload (pc' := 229) dL_transposes_227 rfl rfl ?_
                refine wa_iload (pc' := 231) dL_transposes_229 rfl rfl ?_
                refine wa_iaload (pc' := 232) dL_transposes_231 rfl (rr_54 _ f g) (by omega) (by omega) (by decide) ?_
                refine wa_iload_n (pc' := 233) dL_transposes_232 rfl rfl rfl ?_
                refine wa_iadd (pc' := 234) dL_transposes_233 rfl ?_
                refine wa_bipush (pc' := 236) dL_transposes_234 rfl rfl ?_
                refine wa_iadd (pc' := 237) dL_transposes_236 rfl ?_
                refine wa_bipush (pc' := 239) dL_transposes_237 rfl rfl ?_
                refine wa_irem (pc' := 240) dL_transposes_239 rfl ⟨by omega, by omega⟩ ⟨by omega, by omega⟩ (by omega) (z_tdiv ⟨by omega, by omega⟩ (by omega)) ?_
                rw [rem12 (x := g i9 + by9 + 12) (by omega)]
                refine wa_icmp_eq (tgt := 245) (pc' := 243) dL_transposes_240 (by decide) rfl (by omega) (by omega) (fun c240 => ?_) (fun c240 => ?_)
                · refine wa_iinc (pc' := 248) (ls' := [(10, _), (11, _), (3, _), (4, _), (2, _), (5, _), (7, _), (0, _), (1, _)]) dL_transposes_245 rfl rfl (by decide) rfl ?_
                  refine wa_goto (pc' := 147) dL_transposes_248 (by decide) ?_
                  refine wa_sub [0, 2, 3, 4, 5, 6, 7, 8] rfl ?_
                  exact ih (i9 + 1) _ _ (by omega) (by omega) (by omega) (by omega)
                · exact absurd c240 (by omega)
set_option maxRecDepth 10000 in
set_option maxHeartbeats 4000000 in
theorem l_tr251 {Post : zP → List zE → Prop} (t nm : zRw) (s D : zSh) (H : Nat → zSh) (ol ct : Int) (k : zKd) (y : zLy) (si fl wi : Int) (H1 : Nat → zSh) (s1 : zSh) (f g : Int → Int) (tn by9 : Int) (hby : -11 ≤ by9 ∧ by9 ≤ 11) (htn : 0 ≤ tn ∧ tn < 12) (h1 : okC (t, nm, s1, D, H1, ol, ct + 1, k, y, si, fl, wi)) (w1 : okW s1) (hc1 : s1.2.2.2.2.1 = s.2.2.2.2.1) (h40 : 0 ≤ s.2.2.2.2.1 ∧ s.2.2.2.2.1 ≤ 40) (hct : 0 ≤ ct ∧ ct + 3 ≤ 8) (hton : pcl (tonO s1.2.2.2.2.2.1 s1.2.2.2.2.2.2) = (tn + by9) % 12) (hf : ∀ i : Int, 0 ≤ i → i < s.2.2.2.2.1 → 0 ≤ f i ∧ f i < 12 ∧ pcl (s1.2.2.1 (i * 5 + 2)) = (f i + by9) % 12) (nc ns : Nat) (hnc : nc + 60 ≤ 1000) (hns : ns + 360 ≤ 6000)
    (K : ∀ (s2 s3 : zSh) (i9 : Int) (nc1 ns1 : Nat), okW s2 → okC (t, nm, s3, D, (hup (hup H1 ((ol + (ct + 1)) % 8).toNat s1) ((ol + (ct + 1 + 1)) % 8).toNat s2), ol, ct + 1 + 1 + 1, k, y, si, fl, wi) → nc1 ≤ nc + 50 → ns1 ≤ ns + 300 → Wa q_L_transposes 11 1000 6000 53 Post 316 [(10, zI i9), (5, zJ (fpS s)), (0, zR 0)] [] (wCS (t, nm, s3, D, (hup (hup H1 ((ol + (ct + 1)) % 8).toNat s1) ((ol + (ct + 1 + 1)) % 8).toNat s2), ol, ct + 1 + 1 + 1, k, y, si, fl, wi) ++ rr f g) nc1 ns1) (i8 : Int) : Wa q_L_transposes 11 1000 6000 53 Post 251 [(10, zI i8), (3, zR 53), (4, zR 54), (2, zI s.2.2.2.2.1), (5, zJ (fpS s)), (7, zI tn), (0, zR 0), (1, zI by9)] [] (wCS (t, nm, s1, D, H1, ol, ct + 1, k, y, si, fl, wi) ++ rr f g) nc ns := by
  have hm1 := w1.1.2.2.2.1
  have hfl : fl = 0 ∨ fl = 1 := h1.2.2.2.2.2.2.2.2.2.2.1
  have hsg := smS_b (tp := (7 * tonO s1.2.2.2.2.2.1 s1.2.2.2.2.2.2 + -by9) % 12) (fl := fl) hm1
  have hsp := smS_p (tp := (7 * tonO s1.2.2.2.2.2.1 s1.2.2.2.2.2.2 + -by9) % 12) (by omega) hm1 hfl
  have hton2 : pcl (tonO s1.2.2.2.2.2.1 s1.2.2.2.2.2.2) = 7 * tonO s1.2.2.2.2.2.1 s1.2.2.2.2.2.2 % 12 := rfl
  have htt := ton_c (smS ((7 * tonO s1.2.2.2.2.2.1 s1.2.2.2.2.2.2 + -by9) % 12) s1.2.2.2.2.2.2 fl) s1.2.2.2.2.2.2 hm1
  have et := e_trans (t := t) (nm := nm) (s := s1) (D := D) (H := H1) (ol := ol) (ct := ct + 1) (k := k) (y := y) (si := si) (fl := fl) (wi := wi) (se := -by9) (by omega) (by omega) rfl
  have w2 := spS_w w1 (-by9) si hsg
  obtain ⟨ra2, sp2, sg2⟩ := spS_r w1 (-by9) si hsg
  generalize hS2 : (smS ((7 * tonO s1.2.2.2.2.2.1 s1.2.2.2.2.2.2 + -by9) % 12) s1.2.2.2.2.2.2 fl) = q2 at *
  generalize spS s1 (-by9) q2 si = s2 at *
  have h2 : okC (t, nm, s2, D, (hup H1 ((ol + (ct + 1)) % 8).toNat s1), ol, ct + 1 + 1, k, y, si, fl, wi) := okC_k h1 w2.1 (by omega)
  have hc2 : s2.2.2.2.2.1 = s.2.2.2.2.1 := ra2.1.trans hc1
  have w3 := spS_w w2 0 (sg := s2.2.2.2.2.2.1) si w2.1.2.2.1
  obtain ⟨ra3, sp3, sg3⟩ := spS_r w2 0 (sg := s2.2.2.2.2.2.1) si w2.1.2.2.1
  have hr0 : (spR 0 s2.2.2.2.2.2.1 si s2.2.2.2.2.1.toNat 0 0 s2.2.2.1).1 = 0 := spR_0 s2.2.2.2.2.2.1 si _ 0 0 s2.2.2.1 (fun j j0 j1 j2 => sp2 j (by omega) (by omega) j2)
  have er := e_respell (t := t) (nm := nm) (s := s2) (D := D) (H := (hup H1 ((ol + (ct + 1)) % 8).toNat s1)) (ol := ol) (ct := ct + 1 + 1) (k := k) (y := y) (si := si) (fl := fl) (wi := wi) (by omega) hr0
  generalize spS s2 0 s2.2.2.2.2.2.1 si = s3 at *
  have h3 : okC (t, nm, s3, D, (hup (hup H1 ((ol + (ct + 1)) % 8).toNat s1) ((ol + (ct + 1 + 1)) % 8).toNat s2), ol, ct + 1 + 1 + 1, k, y, si, fl, wi) := okC_k h2 w3.1 (by omega)
  have hc3 : s3.2.2.2.2.1 = s.2.2.2.2.1 := ra3.1.trans hc2
  have hmn2 := ra2.2.1
  refine wa_aload_n (pc' := 252) dL_transposes_251 rfl rfl rfl ?_
  refine wa_iload_n (pc' := 253) dL_transposes_252 rfl rfl rfl ?_
  refine wa_ineg (pc' := 254) dL_transposes_253 rfl ?_
  refine wx_h (pc' := 257) (c0 := (t, nm, s1, D, H1, ol, ct + 1, k, y, si, fl, wi)) (r := _) (k_L_transposed_v t nm s1 D H1 ol (ct + 1) k y si fl wi h1 (-by9) ⟨by omega, by omega⟩ et) (fun v9 c9 h9 => by rw [h9.1]; rfl) ok_L_transposed rfl lm_L_106 dL_transposes_254 rfl rfl rfl (Nat.le_of_ble_eq_true rfl) (Nat.le_of_ble_eq_true rfl) (by omega) (by omega) (fun v9 c9 h9 => ?_)
  obtain ⟨rfl, rfl⟩ := h9
  refine wa_bipush (pc' := 259) dL_transposes_257 rfl rfl ?_
  refine wa_icmp_lt (tgt := 281) (pc' := 262) dL_transposes_259 (by decide) rfl (by omega) (by omega) (fun c259 => ?_) (fun c259 => ?_)
  · exact absurd c259 (by omega)
  · refine wa_aload_n (pc' := 263) dL_transposes_262 rfl rfl rfl ?_
    refine wx_x (pc' := 266) (c0 := (t, nm, s2, D, (hup H1 ((ol + (ct + 1)) % 8).toNat s1), ol, ct + 1 + 1, k, y, si, fl, wi)) (c1 := (t, nm, s2, D, (hup H1 ((ol + (ct + 1)) % 8).toNat s1), ol, ct + 1 + 1, k, y, si, fl, wi)) (r := _) (v := zI (tonO q2 s1.2.2.2.2.2.2)) (k_X9_tonic t nm s2 D ((hup H1 ((ol + (ct + 1)) % 8).toNat s1)) ol (ct + 1 + 1) k y si fl wi h2) ((show _ = _ from by rw [← sg2, ← hmn2]; rfl)) rfl ok_X9_tonic lm_L_138 dL_transposes_263 rfl rfl rfl rfl rfl (Nat.le_of_ble_eq_true rfl) (Nat.le_of_ble_eq_true rfl) rfl (by omega) (by omega) ?_
    refine wx_n (pc' := 269) (k_L_pitch (tonO q2 s1.2.2.2.2.2.2) (by omega)) rfl ok_L_pitch lm_L_135 dL_transposes_266 rfl rfl rfl (Nat.le_of_ble_eq_true rfl) (Nat.le_of_ble_eq_true rfl) rfl (by omega) (by omega) ?_
    refine wa_iload (pc' := 271) dL_transposes_269 rfl rfl ?_
    refine wa_icmp_ne (tgt := 281) (pc' := 274) dL_transposes_271 (by decide) rfl (by omega) (by omega) (fun c271 => ?_) (fun c271 => ?_)
    · exact absurd c271 (by omega)
    · refine wa_aload_n (pc' := 275) dL_transposes_274 rfl rfl rfl ?_
      refine wx_x (pc' := 278) (c0 := (t, nm, s2, D, (hup H1 ((ol + (ct + 1)) % 8).toNat s1), ol, ct + 1 + 1, k, y, si, fl, wi)) (c1 := (t, nm, s3, D, (hup (hup H1 ((ol + (ct + 1)) % 8).toNat s1) ((ol + (ct + 1 + 1)) % 8).toNat s2), ol, ct + 1 + 1 + 1, k, y, si, fl, wi)) (r := _) (k_X9_respell t nm s2 D ((hup H1 ((ol + (ct + 1)) % 8).toNat s1)) ol (ct + 1 + 1) k y si fl wi h2) (er) rfl ok_X9_respell lm_L_163 dL_transposes_275 rfl rfl rfl rfl rfl (Nat.le_of_ble_eq_true rfl) (Nat.le_of_ble_eq_true rfl) rfl (by omega) (by omega) ?_
      refine wa_if_eq (tgt := 283) (pc' := 281) dL_transposes_278 (by decide) rfl (by omega) (fun c278 => ?_) (fun c278 => ?_)
      · refine wa_iconst (pc' := 284) dL_transposes_283 rfl ?_
        refine wa_istore (pc' := 286) (ls' := [(10, _), (3, _), (4, _), (2, _), (5, _), (7, _), (0, _), (1, _)]) dL_transposes_284 rfl (by decide) rfl ?_
        refine wa_sub [0, 1, 2, 3, 4, 6] rfl ?_
        refine l_tr286 (B1 := nc + 50) (B2 := ns + 300) t nm s D H ol ct k y si fl wi (hup (hup H1 ((ol + (ct + 1)) % 8).toNat s1) ((ol + (ct + 1 + 1)) % 8).toNat s2) s3 f g h3 hc3 h40 (fun i i0 i1 => ?_) (by omega) (by omega) (fun i9 nc1 ns1 g1 g2 => K s2 s3 i9 nc1 ns1 w2 h3 g1 g2) (s.2.2.2.2.1).toNat 0 _ _ (by decide) (by omega) (by omega) (by omega)
        obtain ⟨k1, k2, k3⟩ := hf i i0 i1
        have k4 := (ra2.2.2 i i0 (by omega)).1
        have k5 := (ra3.2.2 i i0 (by omega)).1
        have k6 : pcl (s1.2.2.1 (i * 5 + 2)) = 7 * s1.2.2.1 (i * 5 + 2) % 12 := rfl
        have k7 : pcl (s2.2.2.1 (i * 5 + 2)) = 7 * s2.2.2.1 (i * 5 + 2) % 12 := rfl
        omega
      · exact absurd c278 (by omega)
set_option maxRecDepth 10000 in
set_option maxHeartbeats 4000000 in
theorem l_tr74 (t nm : zRw) (s D : zSh) (H : Nat → zSh) (ol ct : Int) (k : zKd) (y : zLy) (si fl wi : Int) (f g : Int → Int) (by9 : Int) (hby : -11 ≤ by9 ∧ by9 ≤ 11) (h : okC (t, nm, s, D, H, ol, ct, k, y, si, fl, wi)) (hw : okW s) (h40 : 0 < s.2.2.2.2.1 ∧ s.2.2.2.2.1 ≤ 40) (hct : ct + 3 ≤ 8) (hfg : ∀ i : Int, 0 ≤ i → i < s.2.2.2.2.1 → f i = pcl (s.2.2.1 (i * 5 + 2)) ∧ g i = bV (s.2.2.1 (i * 5 + 4))) (nc ns : Nat) (hnc : nc + 300 ≤ 1000) (hns : ns + 1800 ≤ 6000) (i7 : Int) : Wa q_L_transposes 11 1000 6000 53 (zLP fun v c => v = zI 1 ∧ (∃ H1 : Nat → zSh, okC (t, nm, s, D, H1, ol, ct, k, y, si, fl, wi) ∧ c = (t, nm, s, D, H1, ol, ct, k, y, si, fl, wi))) 74 [(5, zI i7), (3, zR 53), (4, zR 54), (2, zI s.2.2.2.2.1), (0, zR 0), (1, zI by9)] [] (wCS (t, nm, s, D, H, ol, ct, k, y, si, fl, wi) ++ rr f g) nc ns := by
  have hol : 0 ≤ ol ∧ ol < 8 := h.2.2.2.2.2.1
  have hct0 : 0 ≤ ct ∧ ct ≤ 8 := h.2.2.2.2.2.2.1
  have hfl : fl = 0 ∨ fl = 1 := h.2.2.2.2.2.2.2.2.2.2.1
  have zm := hw.1.2.2.2.1
  have zg := hw.1.2.2.1
  obtain ⟨n1, n2, n3⟩ := hw.1.2.1 0 (Int.le_refl _) h40.1
  have ht := ton_c s.2.2.2.2.2.1 s.2.2.2.2.2.2 zm
  have hpt := pcl_b (tonO s.2.2.2.2.2.1 s.2.2.2.2.2.2)
  have hpt2 : pcl (tonO s.2.2.2.2.2.1 s.2.2.2.2.2.2) = 7 * tonO s.2.2.2.2.2.1 s.2.2.2.2.2.2 % 12 := rfl
  have hp := pcl_b (s.2.2.1 (0 * 5 + 2))
  have hpp : pcl (s.2.2.1 (0 * 5 + 2)) = 7 * s.2.2.1 (0 * 5 + 2) % 12 := rfl
  obtain ⟨hd1, hd2, -⟩ := dg_f hp zg zm
  have hsg := smS_b (tp := (7 * tonO s.2.2.2.2.2.1 s.2.2.2.2.2.2 + by9) % 12) (fl := fl) zm
  have hsp := smS_p (tp := (7 * tonO s.2.2.2.2.2.1 s.2.2.2.2.2.2 + by9) % 12) (by omega) zm hfl
  have htt := ton_c (smS ((7 * tonO s.2.2.2.2.2.1 s.2.2.2.2.2.2 + by9) % 12) s.2.2.2.2.2.2 fl) s.2.2.2.2.2.2 zm
  have et := e_trans (t := t) (nm := nm) (s := s) (D := D) (H := H) (ol := ol) (ct := ct) (k := k) (y := y) (si := si) (fl := fl) (wi := wi) (se := by9) hby (by omega) rfl
  have w1 := spS_w hw by9 si hsg
  obtain ⟨ra1, sp1, sg1⟩ := spS_r hw by9 si hsg
  generalize hS1 : (smS ((7 * tonO s.2.2.2.2.2.1 s.2.2.2.2.2.2 + by9) % 12) s.2.2.2.2.2.2 fl) = q1 at *
  generalize spS s by9 q1 si = s1 at *
  have h1 : okC (t, nm, s1, D, hup H ((ol + ct) % 8).toNat s, ol, ct + 1, k, y, si, fl, wi) := okC_k h w1.1 (by omega)
  have hc1 := ra1.1
  have hmn := ra1.2.1
  have hr1 := (ra1.2.2 0 (Int.le_refl _) h40.1).1
  have hp1 := pcl_b (s1.2.2.1 (0 * 5 + 2))
  obtain ⟨hd3, hd4, -⟩ := dg_f hp1 w1.1.2.2.1 w1.1.2.2.2.1
  rw [sg1, hmn] at hd3 hd4
  have hdd : dgF (pcl (s1.2.2.1 (0 * 5 + 2))) q1 s.2.2.2.2.2.2 = (dgF (pcl (s.2.2.1 (0 * 5 + 2))) s.2.2.2.2.2.1 s.2.2.2.2.2.2) := by
    rw [hd1, hd3]
    exact congrArg (fun z => dgT z s.2.2.2.2.2.2) (by omega)
  refine wa_aload_n (pc' := 75) dL_transposes_74 rfl rfl rfl ?_
  refine wx_x (pc' := 78) (c0 := (t, nm, s, D, H, ol, ct, k, y, si, fl, wi)) (c1 := (t, nm, s, D, H, ol, ct, k, y, si, fl, wi)) (r := _) (k_X9_fingerprint t nm s D H ol ct k y si fl wi h) (e_fp) rfl ok_X9_fingerprint lm_L_86 dL_transposes_75 rfl rfl rfl rfl rfl (Nat.le_of_ble_eq_true rfl) (Nat.le_of_ble_eq_true rfl) rfl (by omega) (by omega) ?_
  refine wa_lstore (pc' := 80) (ls' := [(5, _), (3, _), (4, _), (2, _), (0, _), (1, _)]) dL_transposes_78 rfl (by decide) rfl ?_
  refine wa_aload_n (pc' := 81) dL_transposes_80 rfl rfl rfl ?_
  refine wx_x (pc' := 84) (c0 := (t, nm, s, D, H, ol, ct, k, y, si, fl, wi)) (c1 := (t, nm, s, D, H, ol, ct, k, y, si, fl, wi)) (r := _) (k_X9_tonic t nm s D H ol ct k y si fl wi h) (rfl) rfl ok_X9_tonic lm_L_138 dL_transposes_81 rfl rfl rfl rfl rfl (Nat.le_of_ble_eq_true rfl) (Nat.le_of_ble_eq_true rfl) rfl (by omega) (by omega) ?_
  refine wx_n (pc' := 87) (k_L_pitch (tonO s.2.2.2.2.2.1 s.2.2.2.2.2.2) (by omega)) rfl ok_L_pitch lm_L_135 dL_transposes_84 rfl rfl rfl (Nat.le_of_ble_eq_true rfl) (Nat.le_of_ble_eq_true rfl) rfl (by omega) (by omega) ?_
  refine wa_istore (pc' := 89) (ls' := [(7, _), (5, _), (3, _), (4, _), (2, _), (0, _), (1, _)]) dL_transposes_87 rfl (by decide) rfl ?_
  refine wa_aload_n (pc' := 90) dL_transposes_89 rfl rfl rfl ?_
  refine wa_iconst (pc' := 91) dL_transposes_90 rfl ?_
  refine wx_x (pc' := 94) (c0 := (t, nm, s, D, H, ol, ct, k, y, si, fl, wi)) (c1 := (t, nm, s, D, H, ol, ct, k, y, si, fl, wi)) (r := _) (k_X9_degree t nm s D H ol ct k y si fl wi h 0 ⟨by omega, by omega⟩) (e_degree (by omega)) rfl ok_X9_degree lm_L_129 dL_transposes_91 rfl rfl rfl rfl rfl (Nat.le_of_ble_eq_true rfl) (Nat.le_of_ble_eq_true rfl) rfl (by omega) (by omega) ?_
  refine wa_istore (pc' := 96) (ls' := [(8, _), (7, _), (5, _), (3, _), (4, _), (2, _), (0, _), (1, _)]) dL_transposes_94 rfl (by decide) rfl ?_
  refine wa_aload_n (pc' := 97) dL_transposes_96 rfl rfl rfl ?_
  refine wa_iload_n (pc' := 98) dL_transposes_97 rfl rfl rfl ?_
  refine wx_h (pc' := 101) (c0 := (t, nm, s, D, H, ol, ct, k, y, si, fl, wi)) (r := _) (k_L_transposed_v t nm s D H ol ct k y si fl wi h by9 ⟨by omega, by omega⟩ et) (fun v9 c9 h9 => by rw [h9.1]; rfl) ok_L_transposed rfl lm_L_106 dL_transposes_98 rfl rfl rfl (Nat.le_of_ble_eq_true rfl) (Nat.le_of_ble_eq_true rfl) (by omega) (by omega) (fun v9 c9 h9 => ?_)
  obtain ⟨rfl, rfl⟩ := h9
  refine wa_istore (pc' := 103) (ls' := [(9, _), (8, _), (7, _), (5, _), (3, _), (4, _), (2, _), (0, _), (1, _)]) dL_transposes_101 rfl (by decide) rfl ?_
  refine wa_iload (pc' := 105) dL_transposes_103 rfl rfl ?_
  refine wa_aload_n (pc' := 106) dL_transposes_105 rfl rfl rfl ?_
  refine wx_x (pc' := 109) (c0 := (t, nm, s1, D, hup H ((ol + ct) % 8).toNat s, ol, ct + 1, k, y, si, fl, wi)) (c1 := (t, nm, s1, D, hup H ((ol + ct) % 8).toNat s, ol, ct + 1, k, y, si, fl, wi)) (r := _) (v := zI q1) (k_X9_signature t nm s1 D (hup H ((ol + ct) % 8).toNat s) ol (ct + 1) k y si fl wi h1) ((show _ = _ from by rw [← sg1]; rfl)) rfl ok_X9_signature lm_L_153 dL_transposes_106 rfl rfl rfl rfl rfl (Nat.le_of_ble_eq_true rfl) (Nat.le_of_ble_eq_true rfl) rfl (by omega) (by omega) ?_
  refine wa_icmp_ne (tgt := 142) (pc' := 112) dL_transposes_109 (by decide) rfl (by omega) (by omega) (fun c109 => ?_) (fun c109 => ?_)
  · exact absurd c109 (by omega)
  · refine wa_aload_n (pc' := 113) dL_transposes_112 rfl rfl rfl ?_
    refine wx_x (pc' := 116) (c0 := (t, nm, s1, D, hup H ((ol + ct) % 8).toNat s, ol, ct + 1, k, y, si, fl, wi)) (c1 := (t, nm, s1, D, hup H ((ol + ct) % 8).toNat s, ol, ct + 1, k, y, si, fl, wi)) (r := _) (v := zI (tonO q1 s.2.2.2.2.2.2)) (k_X9_tonic t nm s1 D (hup H ((ol + ct) % 8).toNat s) ol (ct + 1) k y si fl wi h1) ((show _ = _ from by rw [← sg1, ← hmn]; rfl)) rfl ok_X9_tonic lm_L_138 dL_transposes_113 rfl rfl rfl rfl rfl (Nat.le_of_ble_eq_true rfl) (Nat.le_of_ble_eq_true rfl) rfl (by omega) (by omega) ?_
    refine wx_n (pc' := 119) (k_L_pitch (tonO q1 s.2.2.2.2.2.2) (by omega)) rfl ok_L_pitch lm_L_135 dL_transposes_116 rfl rfl rfl (Nat.le_of_ble_eq_true rfl) (Nat.le_of_ble_eq_true rfl) rfl (by omega) (by omega) ?_
    refine wa_iload (pc' := 121) dL_transposes_119 rfl rfl ?_
    refine wa_iload_n (pc' := 122) dL_transposes_121 rfl rfl rfl ?_
    refine wa_iadd (pc' := 123) dL_transposes_122 rfl ?_
    refine wa_bipush (pc' := 125) dL_transposes_123 rfl rfl ?_
    refine wa_iadd (pc' := 126) dL_transposes_125 rfl ?_
    refine wa_bipush (pc' := 128) dL_transposes_126 rfl rfl ?_
    refine wa_irem (pc' := 129) dL_transposes_128 rfl ⟨by omega, by omega⟩ ⟨by omega, by omega⟩ (by omega) (z_tdiv ⟨by omega, by omega⟩ (by omega)) ?_
    rw [rem12 (x := pcl (tonO s.2.2.2.2.2.1 s.2.2.2.2.2.2) + by9 + 12) (by omega)]
    refine wa_icmp_ne (tgt := 142) (pc' := 132) dL_transposes_129 (by decide) rfl (by omega) (by omega) (fun c129 => ?_) (fun c129 => ?_)
    · exact absurd c129 (by omega)
    · refine wa_aload_n (pc' := 133) dL_transposes_132 rfl rfl rfl ?_
      refine wa_iconst (pc' := 134) dL_transposes_133 rfl ?_
      refine wx_x (pc' := 137) (c0 := (t, nm, s1, D, hup H ((ol + ct) % 8).toNat s, ol, ct + 1, k, y, si, fl, wi)) (c1 := (t, nm, s1, D, hup H ((ol + ct) % 8).toNat s, ol, ct + 1, k, y, si, fl, wi)) (r := _) (v := zI (dgF (pcl (s.2.2.1 (0 * 5 + 2))) s.2.2.2.2.2.1 s.2.2.2.2.2.2)) (k_X9_degree t nm s1 D (hup H ((ol + ct) % 8).toNat s) ol (ct + 1) k y si fl wi h1 0 ⟨by omega, by omega⟩) ((e_degree (show 0 ≤ (0 : Int) ∧ 0 < s1.2.2.2.2.1 by omega)).trans (by rw [sg1, hmn, hdd])) rfl ok_X9_degree lm_L_129 dL_transposes_134 rfl rfl rfl rfl rfl (Nat.le_of_ble_eq_true rfl) (Nat.le_of_ble_eq_true rfl) rfl (by omega) (by omega) ?_
      refine wa_iload (pc' := 139) dL_transposes_137 rfl rfl ?_
      refine wa_icmp_eq (tgt := 144) (pc' := 142) dL_transposes_139 (by decide) rfl (by omega) (by omega) (fun c139 => ?_) (fun c139 => ?_)
      · refine wa_iconst (pc' := 145) dL_transposes_144 rfl ?_
        refine wa_istore (pc' := 147) (ls' := [(10, _), (9, _), (8, _), (7, _), (5, _), (3, _), (4, _), (2, _), (0, _), (1, _)]) dL_transposes_145 rfl (by decide) rfl ?_
        refine wa_sub [0, 5, 6, 7, 4, 3, 8, 9] rfl ?_
        refine l_tr147 (B1 := nc + 150) (B2 := ns + 900) t nm s D H ol ct k y si fl wi (hup H ((ol + ct) % 8).toNat s) s1 f g (pcl (tonO s.2.2.2.2.2.1 s.2.2.2.2.2.2)) by9 hby hw h1 ra1 (by omega) hfg (by omega) (by omega) (fun i9 nc1 ns1 g1 g2 => ?_) (s.2.2.2.2.1).toNat 0 _ _ (by decide) (by omega) (by omega) (by omega)
        refine l_tr251 t nm s D H ol ct k y si fl wi (hup H ((ol + ct) % 8).toNat s) s1 f g (pcl (tonO s.2.2.2.2.2.1 s.2.2.2.2.2.2)) by9 hby hpt h1 w1 hc1 (by omega) ⟨hct0.1, hct⟩ (by rw [sg1, hmn]; omega) (fun i i0 i1 => ?_) nc1 ns1 (by omega) (by omega) (fun s2 s3 i8 nc2 ns2 w2 h3 g3 g4 => ?_) i9
        · obtain ⟨k1, -⟩ := hfg i i0 i1
          have k2 := (ra1.2.2 i i0 i1).1
          have k3 := pcl_b (s.2.2.1 (i * 5 + 2))
          have k4 : pcl (s.2.2.1 (i * 5 + 2)) = 7 * s.2.2.1 (i * 5 + 2) % 12 := rfl
          omega
        · have a1 : ¬ ((ol + ct) % 8).toNat = ((ol + (ct + 1)) % 8).toNat := by omega
          have a2 : ¬ ((ol + ct) % 8).toNat = ((ol + (ct + 1 + 1)) % 8).toNat := by omega
          have a3 : ¬ ((ol + (ct + 1)) % 8).toNat = ((ol + (ct + 1 + 1)) % 8).toNat := by omega
          exact l_tr316 t nm s D H ol ct k y si fl wi (hup (hup (hup H ((ol + ct) % 8).toNat s) ((ol + (ct + 1)) % 8).toNat s1) ((ol + (ct + 1 + 1)) % 8).toNat s2) s1 s2 s3 f g i8 h3 hw w1 w2 ⟨hct0.1, hct, hol.1⟩ (if_pos rfl) ((if_neg a3).trans (if_pos rfl)) ((if_neg a2).trans ((if_neg a1).trans (if_pos rfl))) nc2 ns2 (by omega) (by omega)
      · exact absurd c139 (by omega)
set_option maxRecDepth 10000 in
set_option maxHeartbeats 4000000 in
theorem l_tr19 (t nm : zRw) (s D : zSh) (H : Nat → zSh) (ol ct : Int) (k : zKd) (y : zLy) (si fl wi : Int) (by9 : Int) (hby : -11 ≤ by9 ∧ by9 ≤ 11) (h : okC (t, nm, s, D, H, ol, ct, k, y, si, fl, wi)) (hw : okW s) (h40 : 0 < s.2.2.2.2.1 ∧ s.2.2.2.2.1 ≤ 40) (hct : ct + 3 ≤ 8) : ∀ (m : Nat) (i9 : Int) (f g : Int → Int) (nc ns : Nat), 0 ≤ i9 → i9 + m = s.2.2.2.2.1 → (∀ i : Int, 0 ≤ i → i < i9 → f i = pcl (s.2.2.1 (i * 5 + 2)) ∧ g i = bV (s.2.2.1 (i * 5 + 4))) → nc + 3 * m + 300 ≤ 1000 → ns + 18 * m + 1800 ≤ 6000 → Wa q_L_transposes 11 1000 6000 53 (zLP fun v c => v = zI 1 ∧ (∃ H1 : Nat → zSh, okC (t, nm, s, D, H1, ol, ct, k, y, si, fl, wi) ∧ c = (t, nm, s, D, H1, ol, ct, k, y, si, fl, wi))) 19 [(5, zI i9), (3, zR 53), (4, zR 54), (2, zI s.2.2.2.2.1), (0, zR 0), (1, zI by9)] [] (wCS (t, nm, s, D, H, ol, ct, k, y, si, fl, wi) ++ rr f g) nc ns := by
  intro m
  induction m with
  | zero =>
    intro i9 f g nc ns h0 h1 hfg hnc hns
    refine wa_iload (pc' := 21) dL_transposes_19 rfl rfl ?_
    refine wa_iload_n (pc' := 22) dL_transposes_21 rfl rfl rfl ?_
    refine wa_icmp_ge (tgt := 74) (pc' := 25) dL_transposes_22 (by decide) rfl (by omega) (by omega) (fun c22 => ?_) (fun c22 => ?_)
    · exact l_tr74 t nm s D H ol ct k y si fl wi f g by9 hby h hw h40 hct (fun i i0 i1 => hfg i i0 (by omega)) _ _ (by omega) (by omega) i9
    · exact absurd c22 (by omega)
  | succ m ih =>
    intro i9 f g nc ns h0 h1 hfg hnc hns
    obtain ⟨n1, n2, n3⟩ := hw.1.2.1 i9 h0 (by omega)
    refine wa_iload (pc' := 21) dL_transposes_19 rfl rfl ?_
    refine wa_iload_n (pc' := 22) dL_transposes_21 rfl rfl rfl ?_
    refine wa_icmp_ge (tgt := 74) (pc' := 25) dL_transposes_22 (by decide) rfl (by omega) (by omega) (fun c22 => ?_) (fun c22 => ?_)
    · exact absurd c22 (by omega)
    · refine wa_aload_n (pc' := 26) dL_transposes_25 rfl rfl rfl ?_
      refine wa_iload (pc' := 28) dL_transposes_26 rfl rfl ?_
      refine wa_aload_n (pc' := 29) dL_transposes_28 rfl rfl rfl ?_
      refine wa_iload (pc' := 31) dL_transposes_29 rfl rfl ?_
      refine wx_x (pc' := 34) (c0 := (t, nm, s, D, H, ol, ct, k, y, si, fl, wi)) (c1 := (t, nm, s, D, H, ol, ct, k, y, si, fl, wi)) (r := _) (k_X9_rootOf t nm s D H ol ct k y si fl wi h i9 ⟨by omega, by omega⟩) (e_rootOf (by omega) rfl) rfl ok_X9_rootOf lm_L_63 dL_transposes_31 rfl rfl rfl rfl rfl (Nat.le_of_ble_eq_true rfl) (Nat.le_of_ble_eq_true rfl) rfl (by omega) (by omega) ?_
      refine wx_n (pc' := 37) (k_L_pitch (s.2.2.1 (i9 * 5 + 2)) (by omega)) rfl ok_L_pitch lm_L_135 dL_transposes_34 rfl rfl rfl (Nat.le_of_ble_eq_true rfl) (Nat.le_of_ble_eq_true rfl) rfl (by omega) (by omega) ?_
      refine wa_iastore (pc' := 38) (w' := wCS (t, nm, s, D, H, ol, ct, k, y, si, fl, wi) ++ rr (zup f i9 (pcl (s.2.2.1 (i9 * 5 + 2)))) g) dL_transposes_37 rfl (rr_53 _ f g) (by omega) (by omega) (by decide) (rr_s53 _ _ _ _) ?_
      refine wa_aload (pc' := 40) dL_transposes_38 rfl rfl ?_
      refine wa_iload (pc' := 42) dL_transposes_40 rfl rfl ?_
      refine wa_aload_n (pc' := 43) dL_transposes_42 rfl rfl rfl ?_
      refine wa_iload (pc' := 45) dL_transposes_43 rfl rfl ?_
      refine wx_x (pc' := 48) (c0 := (t, nm, s, D, H, ol, ct, k, y, si, fl, wi)) (c1 := (t, nm, s, D, H, ol, ct, k, y, si, fl, wi)) (r := _) (k_X9_bassOf t nm s D H ol ct k y si fl wi h i9 ⟨by omega, by omega⟩) (e_bassOf (by omega) rfl) rfl ok_X9_bassOf lm_L_160 dL_transposes_45 rfl rfl rfl rfl rfl (Nat.le_of_ble_eq_true rfl) (Nat.le_of_ble_eq_true rfl) rfl (by omega) (by omega) ?_
      refine wa_bipush (pc' := 50) dL_transposes_48 rfl rfl ?_
      refine wa_icmp_ne (tgt := 58) (pc' := 53) dL_transposes_50 (by decide) rfl (by omega) (by omega) (fun c50 => ?_) (fun c50 => ?_)
      · refine wa_aload_n (pc' := 59) dL_transposes_58 rfl rfl rfl ?_
        refine wa_iload (pc' := 61) dL_transposes_59 rfl rfl ?_
        refine wx_x (pc' := 64) (c0 := (t, nm, s, D, H, ol, ct, k, y, si, fl, wi)) (c1 := (t, nm, s, D, H, ol, ct, k, y, si, fl, wi)) (r := _) (k_X9_bassOf t nm s D H ol ct k y si fl wi h i9 ⟨by omega, by omega⟩) (e_bassOf (by omega) rfl) rfl ok_X9_bassOf lm_L_160 dL_transposes_61 rfl rfl rfl rfl rfl (Nat.le_of_ble_eq_true rfl) (Nat.le_of_ble_eq_true rfl) rfl (by omega) (by omega) ?_
        refine wx_n (pc' := 67) (k_L_pitch (s.2.2.1 (i9 * 5 + 4)) (by omega)) rfl ok_L_pitch lm_L_135 dL_transposes_64 rfl rfl rfl (Nat.le_of_ble_eq_true rfl) (Nat.le_of_ble_eq_true rfl) rfl (by omega) (by omega) ?_
        refine wa_iastore (pc' := 68) (w' := wCS (t, nm, s, D, H, ol, ct, k, y, si, fl, wi) ++ rr (zup f i9 (pcl (s.2.2.1 (i9 * 5 + 2)))) (zup g i9 (bV (s.2.2.1 (i9 * 5 + 4))))) dL_transposes_67 rfl (rr_54 _ _ _) (by omega) (by omega) (by decide) (by first | (rw [show bV (s.2.2.1 (i9 * 5 + 4)) = 100 from if_pos (by omega)]; rfl) | (rw [show bV (s.2.2.1 (i9 * 5 + 4)) = pcl (s.2.2.1 (i9 * 5 + 4)) from if_neg (by omega)]; rfl)) ?_
        refine wa_iinc (pc' := 71) (ls' := [(5, _), (3, _), (4, _), (2, _), (0, _), (1, _)]) dL_transposes_68 rfl rfl (by decide) rfl ?_
        refine wa_goto (pc' := 19) dL_transposes_71 (by decide) ?_
        refine wa_sub [0, 1, 2, 3, 4, 5] rfl ?_
        refine ih (i9 + 1) (zup f i9 (pcl (s.2.2.1 (i9 * 5 + 2)))) (zup g i9 (bV (s.2.2.1 (i9 * 5 + 4)))) _ _ (by omega) (by omega) (fun i i0 i1 => ?_) (by omega) (by omega)
        by_cases hi : i = i9
        · rw [hi]
          exact ⟨zup_same _ _ _, zup_same _ _ _⟩
        · rw [zup_ne _ _ hi, zup_ne _ _ hi]
          exact hfg i i0 (by omega)
      · refine wa_bipush (pc' := 55) dL_transposes_53 rfl rfl ?_
        refine wa_goto (pc' := 67) dL_transposes_55 (by decide) ?_
        refine wa_iastore (pc' := 68) (w' := wCS (t, nm, s, D, H, ol, ct, k, y, si, fl, wi) ++ rr (zup f i9 (pcl (s.2.2.1 (i9 * 5 + 2)))) (zup g i9 (bV (s.2.2.1 (i9 * 5 + 4))))) dL_transposes_67 rfl (rr_54 _ _ _) (by omega) (by omega) (by decide) (by first | (rw [show bV (s.2.2.1 (i9 * 5 + 4)) = 100 from if_pos (by omega)]; rfl) | (rw [show bV (s.2.2.1 (i9 * 5 + 4)) = pcl (s.2.2.1 (i9 * 5 + 4)) from if_neg (by omega)]; rfl)) ?_
        refine wa_iinc (pc' := 71) (ls' := [(5, _), (3, _), (4, _), (2, _), (0, _), (1, _)]) dL_transposes_68 rfl rfl (by decide) rfl ?_
        refine wa_goto (pc' := 19) dL_transposes_71 (by decide) ?_
        refine wa_sub [0, 1, 2, 3, 4, 5] rfl ?_
        refine ih (i9 + 1) (zup f i9 (pcl (s.2.2.1 (i9 * 5 + 2)))) (zup g i9 (bV (s.2.2.1 (i9 * 5 + 4)))) _ _ (by omega) (by omega) (fun i i0 i1 => ?_) (by omega) (by omega)
        by_cases hi : i = i9
        · rw [hi]
          exact ⟨zup_same _ _ _, zup_same _ _ _⟩
        · rw [zup_ne _ _ hi, zup_ne _ _ hi]
          exact hfg i i0 (by omega)
set_option maxRecDepth 10000 in
set_option maxHeartbeats 2000000 in
theorem k_L_transposes (t nm : zRw) (s D : zSh) (H : Nat → zSh) (ol ct : Int) (k : zKd) (y : zLy) (si fl wi : Int) (h : okC (t, nm, s, D, H, ol, ct, k, y, si, fl, wi)) (hw : okW s) (hn : 0 < s.2.2.2.2.1) (hct : ct + 3 ≤ 8) (by9 : Int) (hby : -11 ≤ by9 ∧ by9 ≤ 11) : zMet q_L_transposes 11 1000 6000 [zR 0, zI by9] (wCS (t, nm, s, D, H, ol, ct, k, y, si, fl, wi)) (zLP fun v c => v = zI 1 ∧ (∃ H1 : Nat → zSh, okC (t, nm, s, D, H1, ol, ct, k, y, si, fl, wi) ∧ c = (t, nm, s, D, H1, ol, ct, k, y, si, fl, wi))) := by
  refine z_introF (ls := [(0, _), (1, _)]) (by decide +kernel) rfl (fun _ _ => rfl) (fun _ _ => Nat.le_of_ble_eq_true rfl) ?_
  have z4 := hw.1.1.2.2.2.1
  refine wa_aload_n (pc' := 1) dL_transposes_0 rfl rfl rfl ?_
  refine wy_x (pc' := 4) (c0 := (t, nm, s, D, H, ol, ct, k, y, si, fl, wi)) (c1 := (t, nm, s, D, H, ol, ct, k, y, si, fl, wi)) (k_X9_chords t nm s D H ol ct k y si fl wi h) (rfl) rfl ok_X9_chords lm_L_90 dL_transposes_1 rfl rfl rfl rfl rfl (Nat.le_of_ble_eq_true rfl) (Nat.le_of_ble_eq_true rfl) rfl (by omega) (by omega) ?_
  refine wa_istore_n (pc' := 5) (ls' := [(2, _), (0, _), (1, _)]) dL_transposes_4 rfl rfl (by decide) rfl ?_
  refine wa_bipush (pc' := 7) dL_transposes_5 rfl rfl ?_
  refine wa_newarr (pc' := 9) (t := 0) (n := 40) (w' := wCS (t, nm, s, D, H, ol, ct, k, y, si, fl, wi) ++ [zA 0 40 (fun _ => 0)]) (Or.inl ⟨rfl, rfl⟩) lar_int rfl dL_transposes_7 rfl rfl (by decide) (wCS_ok _) rfl rfl rfl rfl (by decide) (by decide) rfl ?_
  show Wa _ _ _ _ _ _ _ _ (zR 53 :: _) _ _ _
  refine wa_astore_n (pc' := 10) (ls' := [(3, _), (2, _), (0, _), (1, _)]) dL_transposes_9 rfl rfl (by decide) rfl ?_
  refine wa_bipush (pc' := 12) dL_transposes_10 rfl rfl ?_
  refine wa_newarr (pc' := 14) (t := 0) (n := 40) (w' := wCS (t, nm, s, D, H, ol, ct, k, y, si, fl, wi) ++ rr (fun _ => 0) (fun _ => 0)) (Or.inl ⟨rfl, rfl⟩) lar_int rfl dL_transposes_12 rfl rfl (by decide) (show zokw 54 _ from zokw_app (zokw_mono (by decide) (wCS_ok _)) ⟨trivial, trivial⟩) rfl rfl rfl rfl (by decide) (by decide) (List.append_assoc _ _ _) ?_
  show Wa _ _ _ _ _ _ _ _ (zR 54 :: _) _ _ _
  refine wa_astore (pc' := 16) (ls' := [(4, _), (3, _), (2, _), (0, _), (1, _)]) dL_transposes_14 rfl (by decide) rfl ?_
  refine wa_iconst (pc' := 17) dL_transposes_16 rfl ?_
  refine wa_istore (pc' := 19) (ls' := [(5, _), (4, _), (3, _), (2, _), (0, _), (1, _)]) dL_transposes_17 rfl (by decide) rfl ?_
  refine wa_sub [0, 2, 1, 3, 4, 5] rfl ?_
  exact l_tr19 t nm s D H ol ct k y si fl wi by9 hby h hw ⟨hn, z4.2⟩ hct (s.2.2.2.2.1).toNat 0 _ _ _ _ (by decide) (by omega) (fun i i0 i1 => absurd i1 (by omega)) (by omega) (by omega)

