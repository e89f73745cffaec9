/-! the law -/
abbrev q_L_law : zY := (yL_law, cL_law, 7, ret, [])
def PL9 : zP → List zE → Prop := fun o _ => o = .inl (some (zI 1))
abbrev cI : zCS := (zr0, zr0, zs0, zs0, hS0, 0, 0, (0, 0, 0, 0, 0), (zr0, zr0, 0, 0, 0, 0, 0, 0, 0, 0), 1, 0, 200)
theorem okD_0 : okD 200 zs0 := by
  refine ⟨?_, ?_, ?_, ?_, ?_, ?_⟩ <;> simp [zs0] <;> (try omega)
theorem okZ_0 : okZ zs0 := ⟨okD_0, fun i h1 h2 => absurd h2 (by show ¬ i < 0; omega), ⟨by decide, by decide⟩, Or.inl rfl, fun i h1 h2 => absurd h2 (by show ¬ i < 0; omega)⟩
theorem okC_0 : okC cI := by
  have hS : okS zs0 := ⟨Or.inl rfl, okD_0.2.2.2.2.2⟩
  refine ⟨?_, ⟨by decide, by decide⟩, okZ_0, ⟨okD_0, hS⟩, fun i _ => okZ_0, ⟨by decide, by decide⟩, ⟨by decide, by decide⟩, ⟨by decide, by decide⟩, ?_, Or.inr rfl, Or.inl rfl, ⟨by decide, by decide⟩⟩
  · exact ⟨by decide, by decide, fun j h1 h2 => absurd h2 (by show ¬ j < 0; omega)⟩
  · exact ⟨⟨by decide, by decide⟩, ⟨by decide, by decide⟩, ⟨by decide, by decide⟩, ⟨by decide, by decide⟩⟩
theorem e_clear {t nm : zRw} {s D : zSh} {H : Nat → zSh} {ol ct : Int} {k : zKd} {y : zLy} {si fl wi : Int} : cs_clearText (t, nm, s, D, H, ol, ct, k, y, si, fl, wi) = (.inl (some (zI t.1)), (rC t 0, nm, s, D, H, ol, ct, k, y, si, fl, wi)) := rfl
theorem e_read {t nm : zRw} {s D : zSh} {H : Nat → zSh} {ol ct : Int} {k : zKd} {y : zLy} {si fl wi : Int} {r : Int × zSh × zKd} (hr : rdS (gT t) t.1 (t.1.toNat + 1) 0 (shClr D) k = r) (h1 : r.1 = -1) (hct : ct < 8) : cs_read (t, nm, s, D, H, ol, ct, k, y, si, fl, wi) = (.inl (some (zI r.2.1.2.2.2.2.1)), (rC t 0, nm, tkS (beF r.2.1.2.2.1 r.2.1.2.2.2.2.1) r.2.1, r.2.1, hup H ((ol + ct) % 8).toNat s, ol, ct + 1, r.2.2, y, si, fl, wi)) := by
  unfold cs_read
  dsimp only
  rw [hr, if_neg (not_not_intro h1), if_pos hct, if_pos hct]
theorem e_setKey {t nm : zRw} {s D : zSh} {H : Nat → zSh} {ol ct : Int} {k : zKd} {y : zLy} {si fl wi : Int} {p b v : Int} (hp : -6 ≤ p - 3 * b ∧ p - 3 * b ≤ 6) (hct : ct < 8) (hv : sigO p b = v) : cs_setKey p b (t, nm, s, D, H, ol, ct, k, y, si, fl, wi) = (.inl (some (zI s.2.2.2.2.2.1)), (t, nm, sK s v b, D, hup H ((ol + ct) % 8).toNat s, ol, ct + 1, k, y, si, fl, wi)) := by
  subst hv
  show (if ¬ (-6 ≤ p - 3 * b ∧ p - 3 * b ≤ 6) then _ else _) = _
  rw [if_neg (not_not_intro hp), if_pos hct, if_pos hct]
theorem okC_si {t nm : zRw} {s D : zSh} {H : Nat → zSh} {ol ct : Int} {k : zKd} {y : zLy} {si fl wi : Int} (h : okC (t, nm, s, D, H, ol, ct, k, y, si, fl, wi)) {b : Int} (hb : b = 0 ∨ b = 1) : okC (t, nm, s, D, H, ol, ct, k, y, b, fl, wi) := ⟨h.1, h.2.1, h.2.2.1, h.2.2.2.1, h.2.2.2.2.1, h.2.2.2.2.2.1, h.2.2.2.2.2.2.1, h.2.2.2.2.2.2.2.1, h.2.2.2.2.2.2.2.2.1, hb, h.2.2.2.2.2.2.2.2.2.2⟩
theorem okC_fl {t nm : zRw} {s D : zSh} {H : Nat → zSh} {ol ct : Int} {k : zKd} {y : zLy} {si fl wi : Int} (h : okC (t, nm, s, D, H, ol, ct, k, y, si, fl, wi)) {b : Int} (hb : b = 0 ∨ b = 1) : okC (t, nm, s, D, H, ol, ct, k, y, si, b, wi) := ⟨h.1, h.2.1, h.2.2.1, h.2.2.2.1, h.2.2.2.2.1, h.2.2.2.2.2.1, h.2.2.2.2.2.2.1, h.2.2.2.2.2.2.2.1, h.2.2.2.2.2.2.2.2.1, h.2.2.2.2.2.2.2.2.2.1, hb, h.2.2.2.2.2.2.2.2.2.2.2⟩
theorem okC_D {t nm : zRw} {s D : zSh} {H : Nat → zSh} {ol ct : Int} {k : zKd} {y : zLy} {si fl wi : Int} (h : okC (t, nm, s, D, H, ol, ct, k, y, si, fl, wi)) {D1 : zSh} (hD : okD 200 D1 ∧ okS D1) : okC (t, nm, s, D1, H, ol, ct, k, y, si, fl, wi) := ⟨h.1, h.2.1, h.2.2.1, hD, h.2.2.2.2⟩
set_option maxRecDepth 10000 in
set_option maxHeartbeats 4000000 in
theorem law_213 {N : Nat} {xs : Nat → Int32} (t nm : zRw) (s D : zSh) (H : Nat → zSh) (ol ct : Int) (k : zKd) (y : zLy) (si fl wi : Int) (h : okC (t, nm, s, D, H, ol, ct, k, y, si, fl, wi)) (hw : okW s) (hct : 0 ≤ ct ∧ ct + 3 ≤ 8) (q n a4 b : Int) (hb : b = 0 ∨ b = 1) (nc ns : Nat) (hnc : nc + 1200 ≤ 600104) (hns : ns + 7000 ≤ 7301314) : WL N xs q_L_law 16 600104 7301314 0 PL9 213 [(5, zI (upF (zshr q 13) 13 - 6)), (4, zI a4), (3, zI q), (2, zI n), (1, zR 0), (0, zK 50)] [zI b] (wCS (t, nm, s, D, H, ol, ct, k, y, si, fl, wi)) nc ns := by
  have u := upF_b (zshr q 13) (m := 13) (by decide)
  have zg := hw.1.2.2.1
  rcases hb with rfl | rfl
  · have ek := e_setKey (t := t) (nm := nm) (s := s) (D := D) (H := H) (ol := ol) (ct := ct) (k := k) (y := y) (si := si) (fl := fl) (wi := wi) (p := (upF (zshr q 13) 13 - 6)) (b := 0) (v := (upF (zshr q 13) 13 - 6)) ⟨by omega, by omega⟩ (by omega) (by unfold sigO; rw [if_pos rfl])
    have w1 : okW (sK s (upF (zshr q 13) 13 - 6) 0) := okW_key hw ⟨by omega, by omega⟩ (Or.inl rfl)
    have g1 : (sK s (upF (zshr q 13) 13 - 6) 0).2.2.2.2.2.1 = (upF (zshr q 13) 13 - 6) := rfl
    generalize sK s (upF (zshr q 13) 13 - 6) 0 = s1 at *
    have h1 : okC (t, nm, s1, D, hup H ((ol + ct) % 8).toNat s, ol, ct + 1, k, y, si, fl, wi) := okC_k h w1.1 (by omega)
    generalize hup H ((ol + ct) % 8).toNat s = H1 at *
    have er := e_respell (t := t) (nm := nm) (s := s1) (D := D) (H := H1) (ol := ol) (ct := ct + 1) (k := k) (y := y) (si := si) (fl := fl) (wi := wi) (by omega) rfl
    have w2 := spS_w w1 0 (sg := s1.2.2.2.2.2.1) si w1.1.2.2.1
    obtain ⟨-, sp2, sg2⟩ := spS_r w1 0 (sg := s1.2.2.2.2.2.1) si w1.1.2.2.1
    have rn := spR_n 0 s1.2.2.2.2.2.1 si s1.2.2.2.2.1.toNat 0 0 s1.2.2.1
    have z4 := w1.1.1.2.2.2.1
    generalize (spR 0 s1.2.2.2.2.2.1 si s1.2.2.2.2.1.toNat 0 0 s1.2.2.1).1 = v2 at *
    generalize spS s1 0 s1.2.2.2.2.2.1 si = s2 at *
    have h2 : okC (t, nm, s2, D, hup H1 ((ol + (ct + 1)) % 8).toNat s1, ol, ct + 1 + 1, k, y, si, fl, wi) := okC_k h1 w2.1 (by omega)
    generalize hup H1 ((ol + (ct + 1)) % 8).toNat s1 = H2 at *
    have hr0 : (spR 0 s2.2.2.2.2.2.1 si s2.2.2.2.2.1.toNat 0 0 s2.2.2.1).1 = 0 := by
      have z5 := w2.1.1.2.2.2.1
      exact spR_0 s2.2.2.2.2.2.1 si _ 0 0 s2.2.2.1 (fun j j0 j1 j2 => sp2 j (by omega) (by omega) j2)
    have er2 := e_respell (t := t) (nm := nm) (s := s2) (D := D) (H := H2) (ol := ol) (ct := ct + 1 + 1) (k := k) (y := y) (si := si) (fl := fl) (wi := wi) (by omega) hr0
    have w3 := spS_w w2 0 (sg := s2.2.2.2.2.2.1) si w2.1.2.2.1
    generalize spS s2 0 s2.2.2.2.2.2.1 si = s3 at *
    have h3 : okC (t, nm, s3, D, hup H2 ((ol + (ct + 1 + 1)) % 8).toNat s2, ol, ct + 1 + 1 + 1, k, y, si, fl, wi) := okC_k h2 w3.1 (by omega)
    generalize hup H2 ((ol + (ct + 1 + 1)) % 8).toNat s2 = H3 at *
    refine wl_istore (pc' := 215) (ls' := [(6, _), (5, _), (4, _), (3, _), (2, _), (1, _), (0, _)]) dL_law_213 rfl (by decide) rfl ?_
    refine wl_aload_n (pc' := 216) dL_law_215 rfl rfl rfl ?_
    refine wl_iload (pc' := 218) dL_law_216 rfl rfl ?_
    refine wl_if_eq (tgt := 228) (pc' := 221) dL_law_218 (by decide) rfl (by omega) (fun c218 => ?_) (fun c218 => ?_)
    · refine wl_iload (pc' := 230) dL_law_228 rfl rfl ?_
      refine wl_iload (pc' := 232) dL_law_230 rfl rfl ?_
      refine wly_h (pc' := 235) (c0 := (t, nm, s, D, H, ol, ct, k, y, si, fl, wi)) (k_L_key_v t nm s D H ol ct k y si fl wi h (upF (zshr q 13) 13 - 6) ⟨by omega, by omega⟩ 0 (Or.inl rfl) ek) (fun v9 c9 h9 => by rw [h9.1]; rfl) ok_L_key rfl lm_L_109 dL_law_232 rfl rfl rfl (Nat.le_of_ble_eq_true rfl) (Nat.le_of_ble_eq_true rfl) (by omega) (by omega) (fun v9 c9 h9 => ?_)
      obtain ⟨rfl, rfl⟩ := h9
      refine wl_bipush (pc' := 237) dL_law_235 rfl rfl ?_
      refine wl_icmp_lt (tgt := 281) (pc' := 240) dL_law_237 (by decide) rfl (by omega) (by omega) (fun c237 => ?_) (fun c237 => ?_)
      · exact absurd c237 (by omega)
      · refine wl_aload_n (pc' := 241) dL_law_240 rfl rfl rfl ?_
        refine wly_x (pc' := 244) (c0 := (t, nm, s1, D, H1, ol, ct + 1, k, y, si, fl, wi)) (c1 := (t, nm, s1, D, H1, ol, ct + 1, k, y, si, fl, wi)) (v := zI (upF (zshr q 13) 13 - 6)) (k_X9_signature t nm s1 D H1 ol (ct + 1) k y si fl wi h1) ((show _ = _ from by rw [← g1]; rfl)) rfl ok_X9_signature lm_L_153 dL_law_241 rfl rfl rfl rfl rfl (Nat.le_of_ble_eq_true rfl) (Nat.le_of_ble_eq_true rfl) rfl (by omega) (by omega) ?_
        refine wl_iload (pc' := 246) dL_law_244 rfl rfl ?_
        refine wl_icmp_ne (tgt := 281) (pc' := 249) dL_law_246 (by decide) rfl (by omega) (by omega) (fun c246 => ?_) (fun c246 => ?_)
        · exact absurd c246 (by omega)
        · refine wl_aload_n (pc' := 250) dL_law_249 rfl rfl rfl ?_
          refine wly_x (pc' := 253) (c0 := (t, nm, s1, D, H1, ol, ct + 1, k, y, si, fl, wi)) (c1 := (t, nm, s2, D, H2, ol, ct + 1 + 1, k, y, si, fl, wi)) (k_X9_respell t nm s1 D H1 ol (ct + 1) k y si fl wi h1) (er) rfl ok_X9_respell lm_L_163 dL_law_250 rfl rfl rfl rfl rfl (Nat.le_of_ble_eq_true rfl) (Nat.le_of_ble_eq_true rfl) rfl (by omega) (by omega) ?_
          refine wl_if_lt (tgt := 281) (pc' := 256) dL_law_253 (by decide) rfl (by omega) (fun c253 => ?_) (fun c253 => ?_)
          · exact absurd c253 (by omega)
          · refine wl_aload_n (pc' := 257) dL_law_256 rfl rfl rfl ?_
            refine wly_x (pc' := 260) (c0 := (t, nm, s2, D, H2, ol, ct + 1 + 1, k, y, si, fl, wi)) (c1 := (t, nm, s3, D, H3, ol, ct + 1 + 1 + 1, k, y, si, fl, wi)) (k_X9_respell t nm s2 D H2 ol (ct + 1 + 1) k y si fl wi h2) (er2) rfl ok_X9_respell lm_L_163 dL_law_257 rfl rfl rfl rfl rfl (Nat.le_of_ble_eq_true rfl) (Nat.le_of_ble_eq_true rfl) rfl (by omega) (by omega) ?_
            refine wl_if_ne (tgt := 281) (pc' := 263) dL_law_260 (by decide) rfl (by omega) (fun c260 => ?_) (fun c260 => ?_)
            · exact absurd c260 (by omega)
            · refine wl_aload_n (pc' := 264) dL_law_263 rfl rfl rfl ?_
              refine wly_s (pc' := 267) (c0 := (t, nm, s3, D, H3, ol, ct + 1 + 1 + 1, k, y, si, fl, wi)) (k_L_chords t nm s3 D H3 ol (ct + 1 + 1 + 1) k y si fl wi h3 w3) (fun v9 c9 h9 => by rw [h9.1]; rfl) ok_L_chords lm_L_211 dL_law_264 rfl rfl rfl (Nat.le_of_ble_eq_true rfl) (Nat.le_of_ble_eq_true rfl) rfl (by omega) (by omega) (fun v9 c9 h9 => ?_)
              obtain ⟨rfl, nm9, hnm9, rfl⟩ := h9
              refine wl_if_eq (tgt := 281) (pc' := 270) dL_law_267 (by decide) rfl (by omega) (fun c267 => ?_) (fun c267 => ?_)
              · exact absurd c267 (by omega)
              · refine wl_aload_n (pc' := 271) dL_law_270 rfl rfl rfl ?_
                refine wly_s (pc' := 274) (c0 := (t, nm9, s3, D, H3, ol, ct + 1 + 1 + 1, k, y, si, fl, wi)) (k_L_fails t nm9 s3 D H3 ol (ct + 1 + 1 + 1) k y si fl wi (okC_n h3 hnm9)) (fun v9 c9 h9 => by rw [h9.1]; rfl) ok_L_fails lm_L_200 dL_law_271 rfl rfl rfl (Nat.le_of_ble_eq_true rfl) (Nat.le_of_ble_eq_true rfl) rfl (by omega) (by omega) (fun v9 c9 h9 => ?_)
                obtain ⟨rfl, rfl⟩ := h9
                refine wl_if_eq (tgt := 281) (pc' := 277) dL_law_274 (by decide) rfl (by omega) (fun c274 => ?_) (fun c274 => ?_)
                · exact absurd c274 (by omega)
                · refine wl_iconst (pc' := 278) dL_law_277 rfl ?_
                  refine wl_goto (pc' := 282) dL_law_278 (by decide) ?_
                  exact wl_zret dL_law_282 rfl (by omega) (by omega) (Or.inr rfl) rfl
    · exact absurd c218 (by omega)
  · have ek := e_setKey (t := t) (nm := nm) (s := s) (D := D) (H := H) (ol := ol) (ct := ct) (k := k) (y := y) (si := si) (fl := fl) (wi := wi) (p := ((upF (zshr q 13) 13 - 6) + 3)) (b := 1) (v := (upF (zshr q 13) 13 - 6)) ⟨by omega, by omega⟩ (by omega) (by unfold sigO; rw [if_neg (by decide)]; omega)
    have w1 : okW (sK s (upF (zshr q 13) 13 - 6) 1) := okW_key hw ⟨by omega, by omega⟩ (Or.inr rfl)
    have g1 : (sK s (upF (zshr q 13) 13 - 6) 1).2.2.2.2.2.1 = (upF (zshr q 13) 13 - 6) := rfl
    generalize sK s (upF (zshr q 13) 13 - 6) 1 = s1 at *
    have h1 : okC (t, nm, s1, D, hup H ((ol + ct) % 8).toNat s, ol, ct + 1, k, y, si, fl, wi) := okC_k h w1.1 (by omega)
    generalize hup H ((ol + ct) % 8).toNat s = H1 at *
    have er := e_respell (t := t) (nm := nm) (s := s1) (D := D) (H := H1) (ol := ol) (ct := ct + 1) (k := k) (y := y) (si := si) (fl := fl) (wi := wi) (by omega) rfl
    have w2 := spS_w w1 0 (sg := s1.2.2.2.2.2.1) si w1.1.2.2.1
    obtain ⟨-, sp2, sg2⟩ := spS_r w1 0 (sg := s1.2.2.2.2.2.1) si w1.1.2.2.1
    have rn := spR_n 0 s1.2.2.2.2.2.1 si s1.2.2.2.2.1.toNat 0 0 s1.2.2.1
    have z4 := w1.1.1.2.2.2.1
    generalize (spR 0 s1.2.2.2.2.2.1 si s1.2.2.2.2.1.toNat 0 0 s1.2.2.1).1 = v2 at *
    generalize spS s1 0 s1.2.2.2.2.2.1 si = s2 at *
    have h2 : okC (t, nm, s2, D, hup H1 ((ol + (ct + 1)) % 8).toNat s1, ol, ct + 1 + 1, k, y, si, fl, wi) := okC_k h1 w2.1 (by omega)
    generalize hup H1 ((ol + (ct + 1)) % 8).toNat s1 = H2 at *
    have hr0 : (spR 0 s2.2.2.2.2.2.1 si s2.2.2.2.2.1.toNat 0 0 s2.2.2.1).1 = 0 := by
      have z5 := w2.1.1.2.2.2.1
      exact spR_0 s2.2.2.2.2.2.1 si _ 0 0 s2.2.2.1 (fun j j0 j1 j2 => sp2 j (by omega) (by omega) j2)
    have er2 := e_respell (t := t) (nm := nm) (s := s2) (D := D) (H := H2) (ol := ol) (ct := ct + 1 + 1) (k := k) (y := y) (si := si) (fl := fl) (wi := wi) (by omega) hr0
    have w3 := spS_w w2 0 (sg := s2.2.2.2.2.2.1) si w2.1.2.2.1
    generalize spS s2 0 s2.2.2.2.2.2.1 si = s3 at *
    have h3 : okC (t, nm, s3, D, hup H2 ((ol + (ct + 1 + 1)) % 8).toNat s2, ol, ct + 1 + 1 + 1, k, y, si, fl, wi) := okC_k h2 w3.1 (by omega)
    generalize hup H2 ((ol + (ct + 1 + 1)) % 8).toNat s2 = H3 at *
    refine wl_istore (pc' := 215) (ls' := [(6, _), (5, _), (4, _), (3, _), (2, _), (1, _), (0, _)]) dL_law_213 rfl (by decide) rfl ?_
    refine wl_aload_n (pc' := 216) dL_law_215 rfl rfl rfl ?_
    refine wl_iload (pc' := 218) dL_law_216 rfl rfl ?_
    refine wl_if_eq (tgt := 228) (pc' := 221) dL_law_218 (by decide) rfl (by omega) (fun c218 => ?_) (fun c218 => ?_)
    · exact absurd c218 (by omega)
    · refine wl_iload (pc' := 223) dL_law_221 rfl rfl ?_
      refine wl_iconst (pc' := 224) dL_law_223 rfl ?_
      refine wl_iadd (pc' := 225) dL_law_224 rfl ?_
      refine wl_goto (pc' := 230) dL_law_225 (by decide) ?_
      refine wl_iload (pc' := 232) dL_law_230 rfl rfl ?_
      refine wly_h (pc' := 235) (c0 := (t, nm, s, D, H, ol, ct, k, y, si, fl, wi)) (k_L_key_v t nm s D H ol ct k y si fl wi h ((upF (zshr q 13) 13 - 6) + 3) ⟨by omega, by omega⟩ 1 (Or.inr rfl) ek) (fun v9 c9 h9 => by rw [h9.1]; rfl) ok_L_key rfl lm_L_109 dL_law_232 rfl rfl rfl (Nat.le_of_ble_eq_true rfl) (Nat.le_of_ble_eq_true rfl) (by omega) (by omega) (fun v9 c9 h9 => ?_)
      obtain ⟨rfl, rfl⟩ := h9
      refine wl_bipush (pc' := 237) dL_law_235 rfl rfl ?_
      refine wl_icmp_lt (tgt := 281) (pc' := 240) dL_law_237 (by decide) rfl (by omega) (by omega) (fun c237 => ?_) (fun c237 => ?_)
      · exact absurd c237 (by omega)
      · refine wl_aload_n (pc' := 241) dL_law_240 rfl rfl rfl ?_
        refine wly_x (pc' := 244) (c0 := (t, nm, s1, D, H1, ol, ct + 1, k, y, si, fl, wi)) (c1 := (t, nm, s1, D, H1, ol, ct + 1, k, y, si, fl, wi)) (v := zI (upF (zshr q 13) 13 - 6)) (k_X9_signature t nm s1 D H1 ol (ct + 1) k y si fl wi h1) ((show _ = _ from by rw [← g1]; rfl)) rfl ok_X9_signature lm_L_153 dL_law_241 rfl rfl rfl rfl rfl (Nat.le_of_ble_eq_true rfl) (Nat.le_of_ble_eq_true rfl) rfl (by omega) (by omega) ?_
        refine wl_iload (pc' := 246) dL_law_244 rfl rfl ?_
        refine wl_icmp_ne (tgt := 281) (pc' := 249) dL_law_246 (by decide) rfl (by omega) (by omega) (fun c246 => ?_) (fun c246 => ?_)
        · exact absurd c246 (by omega)
        · refine wl_aload_n (pc' := 250) dL_law_249 rfl rfl rfl ?_
          refine wly_x (pc' := 253) (c0 := (t, nm, s1, D, H1, ol, ct + 1, k, y, si, fl, wi)) (c1 := (t, nm, s2, D, H2, ol, ct + 1 + 1, k, y, si, fl, wi)) (k_X9_respell t nm s1 D H1 ol (ct + 1) k y si fl wi h1) (er) rfl ok_X9_respell lm_L_163 dL_law_250 rfl rfl rfl rfl rfl (Nat.le_of_ble_eq_true rfl) (Nat.le_of_ble_eq_true rfl) rfl (by omega) (by omega) ?_
          refine wl_if_lt (tgt := 281) (pc' := 256) dL_law_253 (by decide) rfl (by omega) (fun c253 => ?_) (fun c253 => ?_)
          · exact absurd c253 (by omega)
          · refine wl_aload_n (pc' := 257) dL_law_256 rfl rfl rfl ?_
            refine wly_x (pc' := 260) (c0 := (t, nm, s2, D, H2, ol, ct + 1 + 1, k, y, si, fl, wi)) (c1 := (t, nm, s3, D, H3, ol, ct + 1 + 1 + 1, k, y, si, fl, wi)) (k_X9_respell t nm s2 D H2 ol (ct + 1 + 1) k y si fl wi h2) (er2) rfl ok_X9_respell lm_L_163 dL_law_257 rfl rfl rfl rfl rfl (Nat.le_of_ble_eq_true rfl) (Nat.le_of_ble_eq_true rfl) rfl (by omega) (by omega) ?_
            refine wl_if_ne (tgt := 281) (pc' := 263) dL_law_260 (by decide) rfl (by omega) (fun c260 => ?_) (fun c260 => ?_)
            · exact absurd c260 (by omega)
            · refine wl_aload_n (pc' := 264) dL_law_263 rfl rfl rfl ?_
              refine wly_s (pc' := 267) (c0 := (t, nm, s3, D, H3, ol, ct + 1 + 1 + 1, k, y, si, fl, wi)) (k_L_chords t nm s3 D H3 ol (ct + 1 + 1 + 1) k y si fl wi h3 w3) (fun v9 c9 h9 => by rw [h9.1]; rfl) ok_L_chords lm_L_211 dL_law_264 rfl rfl rfl (Nat.le_of_ble_eq_true rfl) (Nat.le_of_ble_eq_true rfl) rfl (by omega) (by omega) (fun v9 c9 h9 => ?_)
              obtain ⟨rfl, nm9, hnm9, rfl⟩ := h9
              refine wl_if_eq (tgt := 281) (pc' := 270) dL_law_267 (by decide) rfl (by omega) (fun c267 => ?_) (fun c267 => ?_)
              · exact absurd c267 (by omega)
              · refine wl_aload_n (pc' := 271) dL_law_270 rfl rfl rfl ?_
                refine wly_s (pc' := 274) (c0 := (t, nm9, s3, D, H3, ol, ct + 1 + 1 + 1, k, y, si, fl, wi)) (k_L_fails t nm9 s3 D H3 ol (ct + 1 + 1 + 1) k y si fl wi (okC_n h3 hnm9)) (fun v9 c9 h9 => by rw [h9.1]; rfl) ok_L_fails lm_L_200 dL_law_271 rfl rfl rfl (Nat.le_of_ble_eq_true rfl) (Nat.le_of_ble_eq_true rfl) rfl (by omega) (by omega) (fun v9 c9 h9 => ?_)
                obtain ⟨rfl, rfl⟩ := h9
                refine wl_if_eq (tgt := 281) (pc' := 277) dL_law_274 (by decide) rfl (by omega) (fun c274 => ?_) (fun c274 => ?_)
                · exact absurd c274 (by omega)
                · refine wl_iconst (pc' := 278) dL_law_277 rfl ?_
                  refine wl_goto (pc' := 282) dL_law_278 (by decide) ?_
                  exact wl_zret dL_law_282 rfl (by omega) (by omega) (Or.inr rfl) rfl
set_option maxRecDepth 10000 in
set_option maxHeartbeats 4000000 in
theorem law_188 {N : Nat} {xs : Nat → Int32} (t nm : zRw) (s D : zSh) (H : Nat → zSh) (ol ct : Int) (k : zKd) (y : zLy) (si fl wi : Int) (h : okC (t, nm, s, D, H, ol, ct, k, y, si, fl, wi)) (hw : okW s) (hct : 0 ≤ ct ∧ ct + 3 ≤ 8) (q n a4 : Int) (nc ns : Nat) (hnc : nc + 1200 ≤ 600104) (hns : ns + 7000 ≤ 7301314) : WL N xs q_L_law 16 600104 7301314 0 PL9 188 [(4, zI a4), (3, zI q), (2, zI n), (1, zR 0), (0, zK 50)] [] (wCS (t, nm, s, D, H, ol, ct, k, y, si, fl, wi)) nc ns := by
  have hz := zin_and q 4
  refine wl_iload_n (pc' := 189) dL_law_188 rfl rfl rfl ?_
  refine wl_bipush (pc' := 191) dL_law_189 rfl rfl ?_
  refine wl_ishr (pc' := 192) dL_law_191 rfl ?_
  refine wl_bipush (pc' := 194) dL_law_192 rfl rfl ?_
  refine wlx_n (pc' := 197) (k_L_up (zshr q 13) 13 ⟨by decide, by decide⟩) rfl ok_L_up lm_L_38 dL_law_194 rfl rfl rfl (Nat.le_of_ble_eq_true rfl) (Nat.le_of_ble_eq_true rfl) rfl (by omega) (by omega) ?_
  refine wl_bipush (pc' := 199) dL_law_197 rfl rfl ?_
  refine wl_isub (pc' := 200) dL_law_199 rfl ?_
  refine wl_istore (pc' := 202) (ls' := [(5, _), (4, _), (3, _), (2, _), (1, _), (0, _)]) dL_law_200 rfl (by decide) rfl ?_
  refine wl_iload_n (pc' := 203) dL_law_202 rfl rfl rfl ?_
  refine wl_iconst (pc' := 204) dL_law_203 rfl ?_
  refine wl_iand (pc' := 205) dL_law_204 rfl ?_
  refine wl_if_ne (tgt := 212) (pc' := 208) dL_law_205 (by decide) rfl (by omega) (fun c205 => ?_) (fun c205 => ?_)
  · refine wl_iconst (pc' := 213) dL_law_212 rfl ?_
    exact law_213 t nm s D H ol ct k y si fl wi h hw hct q n a4 _ (by omega) _ _ hnc hns
  · refine wl_iconst (pc' := 209) dL_law_208 rfl ?_
    refine wl_goto (pc' := 213) dL_law_209 (by decide) ?_
    exact law_213 t nm s D H ol ct k y si fl wi h hw hct q n a4 _ (by omega) _ _ hnc hns
set_option maxRecDepth 10000 in
set_option maxHeartbeats 4000000 in
theorem law_124 {N : Nat} {xs : Nat → Int32} (t nm : zRw) (s D : zSh) (H : Nat → zSh) (ol ct : Int) (k : zKd) (y : zLy) (si fl wi : Int) (h : okC (t, nm, s, D, H, ol, ct, k, y, si, fl, wi)) (hw : okW s) (hh : noH s) (h0 : t.1 = 0) (hcc : 0 ≤ s.2.2.2.2.1 ∧ s.2.2.2.2.1 ≤ 12) (hct : 0 ≤ ct ∧ ct + 6 ≤ 8) (hf : fl = 0) (q b : Int) (hb : b = 0 ∨ b = 1) (nc ns : Nat) (hnc : nc + 555000 ≤ 600104) (hns : ns + 3400000 ≤ 7301314) : WL N xs q_L_law 16 600104 7301314 0 PL9 124 [(4, zI 1), (3, zI q), (2, zI s.2.2.2.2.1), (1, zR 0), (0, zK 50)] [zI b, zR 0] (wCS (t, nm, s, D, H, ol, ct, k, y, si, fl, wi)) nc ns := by
  subst hf
  have u1 := upF_b (zshr q 2) (m := 60) (by decide)
  have u2 := upF_b (zshr q 8) (m := 23) (by decide)
  have hF := okC_fl h hb
  refine wly_x (pc' := 127) (c0 := (t, nm, s, D, H, ol, ct, k, y, si, 0, wi)) (c1 := (t, nm, s, D, H, ol, ct, k, y, si, b, wi)) (k_X9_setFlats t nm s D H ol ct k y si (0) wi h b hb) (rfl) rfl ok_X9_setFlats lm_L_217 dL_law_124 rfl rfl rfl rfl rfl (Nat.le_of_ble_eq_true rfl) (Nat.le_of_ble_eq_true rfl) rfl (by omega) (by omega) ?_
  refine wl_if_ne (tgt := 161) (pc' := 130) dL_law_127 (by decide) rfl (by omega) (fun c127 => ?_) (fun c127 => ?_)
  · exact absurd c127 (by omega)
  · refine wl_aload_n (pc' := 131) dL_law_130 rfl rfl rfl ?_
    refine wl_bipush (pc' := 133) dL_law_131 rfl rfl ?_
    refine wl_iload_n (pc' := 134) dL_law_133 rfl rfl rfl ?_
    refine wl_iconst (pc' := 135) dL_law_134 rfl ?_
    refine wl_ishr (pc' := 136) dL_law_135 rfl ?_
    refine wl_bipush (pc' := 138) dL_law_136 rfl rfl ?_
    refine wlx_n (pc' := 141) (k_L_up (zshr q 2) 60 ⟨by decide, by decide⟩) rfl ok_L_up lm_L_38 dL_law_138 rfl rfl rfl (Nat.le_of_ble_eq_true rfl) (Nat.le_of_ble_eq_true rfl) rfl (by omega) (by omega) ?_
    refine wl_iadd (pc' := 142) dL_law_141 rfl ?_
    refine wly_s (pc' := 145) (c0 := (t, nm, s, D, H, ol, ct, k, y, si, b, wi)) (k_L_rows t nm s D H ol ct k y si b wi hF hw hh (10 + upF (zshr q 2) 60) ⟨by omega, by omega⟩) (fun v9 c9 h9 => by rw [h9.1]; rfl) ok_L_rows lm_L_220 dL_law_142 rfl rfl rfl (Nat.le_of_ble_eq_true rfl) (Nat.le_of_ble_eq_true rfl) rfl (by omega) (by omega) (fun v9 c9 h9 => ?_)
    obtain ⟨rfl, y1, hy1, rfl⟩ := h9
    have hY := okC_y hF hy1
    refine wl_if_eq (tgt := 161) (pc' := 148) dL_law_145 (by decide) rfl (by omega) (fun c145 => ?_) (fun c145 => ?_)
    · exact absurd c145 (by omega)
    · refine wl_aload_n (pc' := 149) dL_law_148 rfl rfl rfl ?_
      refine wl_aload_n (pc' := 150) dL_law_149 rfl rfl rfl ?_
      refine wl_bipush (pc' := 152) dL_law_150 rfl rfl ?_
      refine wlx_e (pc' := 155) (k_L_cell 15 ⟨by omega, by omega⟩) ok_L_cell lm_L_113 dL_law_152 rfl rfl rfl (Nat.le_of_ble_eq_true rfl) (Nat.le_of_ble_eq_true rfl) rfl (by omega) (by omega) (fun q15 hq15 => ?_)
      refine wly_s (pc' := 158) (c0 := (t, nm, s, D, H, ol, ct, k, y1, si, b, wi)) (k_L_changes t nm s D H ol ct k y1 si b wi hY hw h0 (by omega) (by omega) q15) (fun v9 c9 h9 => by rw [h9.1]; rfl) ok_L_changes lm_L_224 dL_law_155 rfl rfl rfl (Nat.le_of_ble_eq_true rfl) (Nat.le_of_ble_eq_true rfl) rfl (by omega) (by omega) (fun v9 c9 h9 => ?_)
      obtain ⟨rfl, t1, s1, H1, k1, hC, w1, hc1, -, rfl⟩ := h9
      refine wl_if_ne (tgt := 163) (pc' := 161) dL_law_158 (by decide) rfl (by omega) (fun c158 => ?_) (fun c158 => ?_)
      · refine wl_iload_n (pc' := 164) dL_law_163 rfl rfl rfl ?_
        refine wl_if_le (tgt := 188) (pc' := 167) dL_law_164 (by decide) rfl (by omega) (fun c164 => ?_) (fun c164 => ?_)
        · first | exact law_188 t1 nm s1 D H2 ol (ct + 3) k1 y1 si b wi hT w1 ⟨by omega, by omega⟩ q _ _ _ _ (by omega) (by omega) | exact law_188 t1 nm s1 D H1 ol (ct + 3) k1 y1 si b wi hC w1 ⟨by omega, by omega⟩ q _ _ _ _ (by omega) (by omega)
        · refine wl_aload_n (pc' := 168) dL_law_167 rfl rfl rfl ?_
          refine wl_iload_n (pc' := 169) dL_law_168 rfl rfl rfl ?_
          refine wl_bipush (pc' := 171) dL_law_169 rfl rfl ?_
          refine wl_ishr (pc' := 172) dL_law_171 rfl ?_
          refine wl_bipush (pc' := 174) dL_law_172 rfl rfl ?_
          refine wlx_n (pc' := 177) (k_L_up (zshr q 8) 23 ⟨by decide, by decide⟩) rfl ok_L_up lm_L_38 dL_law_174 rfl rfl rfl (Nat.le_of_ble_eq_true rfl) (Nat.le_of_ble_eq_true rfl) rfl (by omega) (by omega) ?_
          refine wl_bipush (pc' := 179) dL_law_177 rfl rfl ?_
          refine wl_isub (pc' := 180) dL_law_179 rfl ?_
          refine wly_s (pc' := 183) (c0 := (t1, nm, s1, D, H1, ol, ct + 3, k1, y1, si, b, wi)) (k_L_transposes t1 nm s1 D H1 ol (ct + 3) k1 y1 si b wi hC w1 (by omega) (by omega) (upF (zshr q 8) 23 - 11) ⟨by omega, by omega⟩) (fun v9 c9 h9 => by rw [h9.1]; rfl) ok_L_transposes lm_L_227 dL_law_180 rfl rfl rfl (Nat.le_of_ble_eq_true rfl) (Nat.le_of_ble_eq_true rfl) rfl (by omega) (by omega) (fun v9 c9 h9 => ?_)
          obtain ⟨rfl, H2, hT, rfl⟩ := h9
          refine wl_if_ne (tgt := 188) (pc' := 186) dL_law_183 (by decide) rfl (by omega) (fun c183 => ?_) (fun c183 => ?_)
          · first | exact law_188 t1 nm s1 D H2 ol (ct + 3) k1 y1 si b wi hT w1 ⟨by omega, by omega⟩ q _ _ _ _ (by omega) (by omega) | exact law_188 t1 nm s1 D H1 ol (ct + 3) k1 y1 si b wi hC w1 ⟨by omega, by omega⟩ q _ _ _ _ (by omega) (by omega)
          · exact absurd c183 (by omega)
      · exact absurd c158 (by omega)
set_option maxRecDepth 10000 in
set_option maxHeartbeats 4000000 in
theorem law_102 {N : Nat} {xs : Nat → Int32} (t nm : zRw) (s D : zSh) (H : Nat → zSh) (ol ct : Int) (k : zKd) (y : zLy) (si fl wi : Int) (h : okC (t, nm, s, D, H, ol, ct, k, y, si, fl, wi)) (hw : okW s) (hh : noH s) (h0 : t.1 = 0) (hcc : 0 ≤ s.2.2.2.2.1 ∧ s.2.2.2.2.1 ≤ 12) (hct : 0 ≤ ct ∧ ct + 6 ≤ 8) (hf : fl = 0) (hs : si = 1) (q b : Int) (hb : b = 0 ∨ b = 1) (nc ns : Nat) (hnc : nc + 555000 ≤ 600104) (hns : ns + 3400000 ≤ 7301314) : WL N xs q_L_law 16 600104 7301314 0 PL9 102 [(3, zI q), (2, zI s.2.2.2.2.1), (1, zR 0), (0, zK 50)] [zI b, zR 0] (wCS (t, nm, s, D, H, ol, ct, k, y, si, fl, wi)) nc ns := by
  have hz := zin_and q 2
  subst hs
  refine wly_x (pc' := 105) (c0 := (t, nm, s, D, H, ol, ct, k, y, 1, fl, wi)) (c1 := (t, nm, s, D, H, ol, ct, k, y, b, fl, wi)) (k_X9_setSimple t nm s D H ol ct k y (1) fl wi h b hb) (rfl) rfl ok_X9_setSimple lm_L_213 dL_law_102 rfl rfl rfl rfl rfl (Nat.le_of_ble_eq_true rfl) (Nat.le_of_ble_eq_true rfl) rfl (by omega) (by omega) ?_
  refine wl_istore (pc' := 107) (ls' := [(4, _), (3, _), (2, _), (1, _), (0, _)]) dL_law_105 rfl (by decide) rfl ?_
  refine wl_iload (pc' := 109) dL_law_107 rfl rfl ?_
  refine wl_if_eq (tgt := 161) (pc' := 112) dL_law_109 (by decide) rfl (by omega) (fun c109 => ?_) (fun c109 => ?_)
  · exact absurd c109 (by omega)
  · refine wl_aload_n (pc' := 113) dL_law_112 rfl rfl rfl ?_
    refine wl_iload_n (pc' := 114) dL_law_113 rfl rfl rfl ?_
    refine wl_iconst (pc' := 115) dL_law_114 rfl ?_
    refine wl_iand (pc' := 116) dL_law_115 rfl ?_
    refine wl_if_ne (tgt := 123) (pc' := 119) dL_law_116 (by decide) rfl (by omega) (fun c116 => ?_) (fun c116 => ?_)
    · refine wl_iconst (pc' := 124) dL_law_123 rfl ?_
      exact law_124 t nm s D H ol ct k y b fl wi (okC_si h hb) hw hh h0 hcc hct hf q _ (by omega) _ _ hnc hns
    · refine wl_iconst (pc' := 120) dL_law_119 rfl ?_
      refine wl_goto (pc' := 124) dL_law_120 (by decide) ?_
      exact law_124 t nm s D H ol ct k y b fl wi (okC_si h hb) hw hh h0 hcc hct hf q _ (by omega) _ _ hnc hns
set_option maxRecDepth 10000 in
set_option maxHeartbeats 4000000 in
theorem law_all {N : Nat} {xs : Nat → Int32} : WL N xs q_L_law 16 600104 7301314 0 PL9 0 [(0, zK 50)] [] [] 0 0 := by
  refine wl_new (pc' := 3) (fs := [zN, zN, zN, zN, zN, zN, zN, zI 0, zI 0, zI 0]) zc_X9 lcl_L_16 dL_law_0 rfl born_X9 rfl trivial rfl rfl rfl rfl (Nat.le_of_ble_eq_true rfl) (Nat.le_of_ble_eq_true rfl) rfl ?_
  refine wl_dup (pc' := 4) dL_law_3 rfl rfl ?_
  refine wl_iV (pc' := 7) (w2 := wCS cI) (as := []) k_X9_init ok_X9_init lm_L_199 dL_law_4 rfl [0] rfl (by decide) rfl rfl (by decide) (Nat.le_of_ble_eq_true rfl) ⟨rfl, trivial⟩ rfl rfl (Nat.le_of_ble_eq_true rfl) rfl rfl (Nat.le_of_ble_eq_true rfl) (Nat.le_of_ble_eq_true rfl) ?_ ?_
  · exact zins_idw (w := wCS cI) (w2 := wCS cI) rfl (wCS_ok cI)
  refine wl_astore_n (pc' := 8) (ls' := [(1, zR 0), (0, zK 50)]) dL_law_7 rfl rfl (by decide) rfl ?_
  refine wl_aload_n (pc' := 9) dL_law_8 rfl rfl rfl ?_
  refine wly_h (pc' := 12) (c0 := (zr0, zr0, zs0, zs0, hS0, 0, 0, (0, 0, 0, 0, 0), (zr0, zr0, 0, 0, 0, 0, 0, 0, 0, 0), 1, 0, 200)) (k_L_undone_x zr0 zr0 zs0 zs0 hS0 0 0 (0, 0, 0, 0, 0) (zr0, zr0, 0, 0, 0, 0, 0, 0, 0, 0) 1 0 200 okC_0 (e_undox rfl)) (fun v9 c9 h9 => by rw [h9.1]; rfl) ok_L_undone rfl lm_L_166 dL_law_9 rfl rfl rfl (Nat.le_of_ble_eq_true rfl) (Nat.le_of_ble_eq_true rfl) (by omega) (by omega) (fun v9 c9 h9 => ?_)
  obtain ⟨rfl, rfl⟩ := h9
  refine wl_iconst (pc' := 13) dL_law_12 rfl ?_
  refine wl_icmp_ne (tgt := 31) (pc' := 16) dL_law_13 (by decide) rfl (by omega) (by omega) (fun c13 => ?_) (fun c13 => ?_)
  · exact absurd c13 (by omega)
  · refine wl_aload_n (pc' := 17) dL_law_16 rfl rfl rfl ?_
    refine wly_x (pc' := 20) (c0 := (zr0, zr0, zs0, zs0, hS0, 0, 0, (0, 0, 0, 0, 0), (zr0, zr0, 0, 0, 0, 0, 0, 0, 0, 0), 1, 0, 200)) (c1 := (zr0, zr0, zs0, zs0, hS0, 0, 0, (0, 0, 0, 0, 0), (zr0, zr0, 0, 0, 0, 0, 0, 0, 0, 0), 1, 0, 200)) (v := zI 1) (k_X9_lines zr0 zr0 zs0 zs0 hS0 0 0 (0, 0, 0, 0, 0) (zr0, zr0, 0, 0, 0, 0, 0, 0, 0, 0) 1 0 200 okC_0) (rfl) rfl ok_X9_lines lm_L_96 dL_law_17 rfl rfl rfl rfl rfl (Nat.le_of_ble_eq_true rfl) (Nat.le_of_ble_eq_true rfl) rfl (by omega) (by omega) ?_
    refine wl_iconst (pc' := 21) dL_law_20 rfl ?_
    refine wl_icmp_ne (tgt := 31) (pc' := 24) dL_law_21 (by decide) rfl (by omega) (by omega) (fun c21 => ?_) (fun c21 => ?_)
    · exact absurd c21 (by omega)
    · refine wl_aload_n (pc' := 25) dL_law_24 rfl rfl rfl ?_
      refine wly_s (pc' := 28) (c0 := (zr0, zr0, zs0, zs0, hS0, 0, 0, (0, 0, 0, 0, 0), (zr0, zr0, 0, 0, 0, 0, 0, 0, 0, 0), 1, 0, 200)) (k_L_fails zr0 zr0 zs0 zs0 hS0 (0) (0) ((0, 0, 0, 0, 0)) ((zr0, zr0, 0, 0, 0, 0, 0, 0, 0, 0)) (1) (0) (200) okC_0) (fun v9 c9 h9 => by rw [h9.1]; rfl) ok_L_fails lm_L_200 dL_law_25 rfl rfl rfl (Nat.le_of_ble_eq_true rfl) (Nat.le_of_ble_eq_true rfl) rfl (by omega) (by omega) (fun v9 c9 h9 => ?_)
      obtain ⟨rfl, rfl⟩ := h9
      refine wl_if_ne (tgt := 33) (pc' := 31) dL_law_28 (by decide) rfl (by omega) (fun c28 => ?_) (fun c28 => ?_)
      · refine wl_aload_n (pc' := 34) dL_law_33 rfl rfl rfl ?_
        refine wl_aload_n (pc' := 35) dL_law_34 rfl rfl rfl ?_
        refine wl_iconst (pc' := 36) dL_law_35 rfl ?_
        refine wly_s (pc' := 39) (c0 := (zr0, zr0, zs0, zs0, hS0, 0, 0, (0, 0, 0, 0, 0), (zr0, zr0, 0, 0, 0, 0, 0, 0, 0, 0), 1, 0, 200)) (k_L_sheet zr0 zr0 zs0 zs0 hS0 0 0 (0, 0, 0, 0, 0) (zr0, zr0, 0, 0, 0, 0, 0, 0, 0, 0) 1 0 200 okC_0 rfl) (fun v9 c9 h9 => by obtain ⟨n, t1, rfl, -⟩ := h9; rfl) ok_L_sheet lm_L_204 dL_law_36 rfl rfl rfl (Nat.le_of_ble_eq_true rfl) (Nat.le_of_ble_eq_true rfl) rfl (by omega) (by omega) (fun v9 c9 h9 => ?_)
        obtain ⟨n, t1, rfl, hn, hX, hC, rfl⟩ := h9
        obtain ⟨e1, e2, e3⟩ := TX_read (D := zs0) (k := (0, 0, 0, 0, 0)) hX rfl (by omega) ⟨by decide, by decide⟩
        obtain ⟨p1, p2, p3, p4⟩ := rdS_P0 (D := zs0) (k := (0, 0, 0, 0, 0)) hC.1 okD_0 ⟨by decide, by decide⟩
        have hR := rdS_P1 (D := zs0) (k := (0, 0, 0, 0, 0)) hC.1 hC.2.2.2.1 ⟨by decide, by decide⟩
        have er := e_read (t := t1) (nm := zr0) (s := zs0) (D := zs0) (H := hS0) (ol := 0) (ct := 0) (k := (0, 0, 0, 0, 0)) (y := (zr0, zr0, 0, 0, 0, 0, 0, 0, 0, 0)) (si := 1) (fl := 0) (wi := 200) rfl e1 (by decide)
        have kr := k_X9_read t1 zr0 zs0 zs0 hS0 0 0 (0, 0, 0, 0, 0) (zr0, zr0, 0, 0, 0, 0, 0, 0, 0, 0) 1 0 200 hC hR
        generalize rdS (gT t1) t1.1 (t1.1.toNat + 1) 0 (shClr zs0) (0, 0, 0, 0, 0) = r at *
        have w2 : okW (tkS (beF r.2.1.2.2.1 r.2.1.2.2.2.2.1) r.2.1) := okW_tk p2
        have hh : noH (tkS (beF r.2.1.2.2.1 r.2.1.2.2.2.2.1) r.2.1) := PL_H w2.2.2.1 (Int.le_of_eq w2.2.1.symm) e3
        have hc2 : (tkS (beF r.2.1.2.2.1 r.2.1.2.2.2.2.1) r.2.1).2.2.2.2.1 = n := e2
        generalize tkS (beF r.2.1.2.2.1 r.2.1.2.2.2.2.1) r.2.1 = s2 at *
        have hS2 : okC (rC t1 0, zr0, s2, zs0, hup hS0 (((0 : Int) + 0) % 8).toNat zs0, 0, 0 + 1, (0, 0, 0, 0, 0), (zr0, zr0, 0, 0, 0, 0, 0, 0, 0, 0), 1, 0, 200) := okC_k (okC_t hC (okT_0 hC.1.1)) w2.1 (by decide)
        generalize hup hS0 (((0 : Int) + 0) % 8).toNat zs0 = H1 at *
        have h2 : okC (rC t1 0, zr0, s2, r.2.1, H1, 0, 0 + 1, r.2.2, (zr0, zr0, 0, 0, 0, 0, 0, 0, 0, 0), 1, 0, 200) := okC_kd (okC_D hS2 ⟨hR.2.1, hR.2.2.2⟩) p4
        have h3 : okC (rC (rC t1 0) 0, zr0, s2, r.2.1, H1, 0, 0 + 1, r.2.2, (zr0, zr0, 0, 0, 0, 0, 0, 0, 0, 0), 1, 0, 200) := okC_t h2 (okT_0 h2.1.1)
        refine wl_istore_n (pc' := 40) (ls' := [(2, _), (1, _), (0, _)]) dL_law_39 rfl rfl (by decide) rfl ?_
        refine wl_iload_n (pc' := 41) dL_law_40 rfl rfl rfl ?_
        refine wl_if_lt (tgt := 81) (pc' := 44) dL_law_41 (by decide) rfl (by omega) (fun c41 => ?_) (fun c41 => ?_)
        · exact absurd c41 (by omega)
        · refine wl_aload_n (pc' := 45) dL_law_44 rfl rfl rfl ?_
          refine wly_x (pc' := 48) (c0 := (t1, zr0, zs0, zs0, hS0, 0, 0, (0, 0, 0, 0, 0), (zr0, zr0, 0, 0, 0, 0, 0, 0, 0, 0), 1, 0, 200)) (c1 := (rC t1 0, zr0, s2, r.2.1, H1, 0, 0 + 1, r.2.2, (zr0, zr0, 0, 0, 0, 0, 0, 0, 0, 0), 1, 0, 200)) kr (er) rfl ok_X9_read lm_L_208 dL_law_45 rfl rfl rfl rfl rfl (Nat.le_of_ble_eq_true rfl) (Nat.le_of_ble_eq_true rfl) rfl (by omega) (by omega) ?_
          refine wl_iload_n (pc' := 49) dL_law_48 rfl rfl rfl ?_
          refine wl_icmp_ne (tgt := 81) (pc' := 52) dL_law_49 (by decide) rfl (by omega) (by omega) (fun c49 => ?_) (fun c49 => ?_)
          · exact absurd c49 (by omega)
          · refine wl_aload_n (pc' := 53) dL_law_52 rfl rfl rfl ?_
            refine wly_x (pc' := 56) (c0 := (rC t1 0, zr0, s2, r.2.1, H1, 0, 0 + 1, r.2.2, (zr0, zr0, 0, 0, 0, 0, 0, 0, 0, 0), 1, 0, 200)) (c1 := (rC t1 0, zr0, s2, r.2.1, H1, 0, 0 + 1, r.2.2, (zr0, zr0, 0, 0, 0, 0, 0, 0, 0, 0), 1, 0, 200)) (v := zI n) (k_X9_chords (rC t1 0) zr0 s2 (r.2.1) H1 0 (0 + 1) (r.2.2) (zr0, zr0, 0, 0, 0, 0, 0, 0, 0, 0) 1 0 200 h2) ((show _ = _ from by rw [← hc2]; rfl)) rfl ok_X9_chords lm_L_90 dL_law_53 rfl rfl rfl rfl rfl (Nat.le_of_ble_eq_true rfl) (Nat.le_of_ble_eq_true rfl) rfl (by omega) (by omega) ?_
            refine wl_iload_n (pc' := 57) dL_law_56 rfl rfl rfl ?_
            refine wl_icmp_ne (tgt := 81) (pc' := 60) dL_law_57 (by decide) rfl (by omega) (by omega) (fun c57 => ?_) (fun c57 => ?_)
            · exact absurd c57 (by omega)
            · refine wl_aload_n (pc' := 61) dL_law_60 rfl rfl rfl ?_
              refine wly_x (pc' := 64) (c0 := (rC t1 0, zr0, s2, r.2.1, H1, 0, 0 + 1, r.2.2, (zr0, zr0, 0, 0, 0, 0, 0, 0, 0, 0), 1, 0, 200)) (c1 := (rC (rC t1 0) 0, zr0, s2, r.2.1, H1, 0, 0 + 1, r.2.2, (zr0, zr0, 0, 0, 0, 0, 0, 0, 0, 0), 1, 0, 200)) (v := zI 0) (k_X9_clearText (rC t1 0) zr0 s2 (r.2.1) H1 0 (0 + 1) (r.2.2) (zr0, zr0, 0, 0, 0, 0, 0, 0, 0, 0) 1 0 200 h2) ((show _ = _ from by rw [e_clear, rC_0 hC.1.1])) rfl ok_X9_clearText lm_L_187 dL_law_61 rfl rfl rfl rfl rfl (Nat.le_of_ble_eq_true rfl) (Nat.le_of_ble_eq_true rfl) rfl (by omega) (by omega) ?_
              refine wl_if_ne (tgt := 81) (pc' := 67) dL_law_64 (by decide) rfl (by omega) (fun c64 => ?_) (fun c64 => ?_)
              · exact absurd c64 (by omega)
              · refine wl_aload_n (pc' := 68) dL_law_67 rfl rfl rfl ?_
                refine wly_s (pc' := 71) (c0 := (rC (rC t1 0) 0, zr0, s2, r.2.1, H1, 0, 0 + 1, r.2.2, (zr0, zr0, 0, 0, 0, 0, 0, 0, 0, 0), 1, 0, 200)) (k_L_chords (rC (rC t1 0) 0) zr0 s2 (r.2.1) H1 (0) (0 + 1) (r.2.2) ((zr0, zr0, 0, 0, 0, 0, 0, 0, 0, 0)) (1) (0) (200) h3 w2) (fun v9 c9 h9 => by rw [h9.1]; rfl) ok_L_chords lm_L_211 dL_law_68 rfl rfl rfl (Nat.le_of_ble_eq_true rfl) (Nat.le_of_ble_eq_true rfl) rfl (by omega) (by omega) (fun v9 c9 h9 => ?_)
                obtain ⟨rfl, nm9, hnm9, rfl⟩ := h9
                refine wl_if_eq (tgt := 81) (pc' := 74) dL_law_71 (by decide) rfl (by omega) (fun c71 => ?_) (fun c71 => ?_)
                · exact absurd c71 (by omega)
                · refine wl_aload_n (pc' := 75) dL_law_74 rfl rfl rfl ?_
                  refine wly_s (pc' := 78) (c0 := (rC (rC t1 0) 0, nm9, s2, r.2.1, H1, 0, 0 + 1, r.2.2, (zr0, zr0, 0, 0, 0, 0, 0, 0, 0, 0), 1, 0, 200)) (k_L_fails (rC (rC t1 0) 0) nm9 s2 (r.2.1) H1 (0) (0 + 1) (r.2.2) ((zr0, zr0, 0, 0, 0, 0, 0, 0, 0, 0)) (1) (0) (200) (okC_n h3 hnm9)) (fun v9 c9 h9 => by rw [h9.1]; rfl) ok_L_fails lm_L_200 dL_law_75 rfl rfl rfl (Nat.le_of_ble_eq_true rfl) (Nat.le_of_ble_eq_true rfl) rfl (by omega) (by omega) (fun v9 c9 h9 => ?_)
                  obtain ⟨rfl, rfl⟩ := h9
                  refine wl_if_ne (tgt := 83) (pc' := 81) dL_law_78 (by decide) rfl (by omega) (fun c78 => ?_) (fun c78 => ?_)
                  · refine wl_aload_n (pc' := 84) dL_law_83 rfl rfl rfl ?_
                    refine wl_bipush (pc' := 86) dL_law_84 rfl rfl ?_
                    refine wlx_e (pc' := 89) (k_L_cell 14 ⟨by omega, by omega⟩) ok_L_cell lm_L_113 dL_law_86 rfl rfl rfl (Nat.le_of_ble_eq_true rfl) (Nat.le_of_ble_eq_true rfl) rfl (by omega) (by omega) (fun q14 hq14 => ?_)
                    have hz := zin_and q14 1
                    refine wl_istore_n (pc' := 90) (ls' := [(3, _), (2, _), (1, _), (0, _)]) dL_law_89 rfl rfl (by decide) rfl ?_
                    refine wl_aload_n (pc' := 91) dL_law_90 rfl rfl rfl ?_
                    refine wl_iload_n (pc' := 92) dL_law_91 rfl rfl rfl ?_
                    refine wl_iconst (pc' := 93) dL_law_92 rfl ?_
                    refine wl_iand (pc' := 94) dL_law_93 rfl ?_
                    refine wl_if_ne (tgt := 101) (pc' := 97) dL_law_94 (by decide) rfl (by omega) (fun c94 => ?_) (fun c94 => ?_)
                    · refine wl_iconst (pc' := 102) dL_law_101 rfl ?_
                      rw [← hc2]
                      exact law_102 (rC (rC t1 0) 0) nm9 s2 (r.2.1) H1 0 (0 + 1) (r.2.2) (zr0, zr0, 0, 0, 0, 0, 0, 0, 0, 0) 1 0 200 (okC_n h3 hnm9) w2 hh (rC_0 h2.1.1) (by omega) ⟨by decide, by decide⟩ rfl rfl q14 _ (by omega) _ _ (by decide) (by decide)
                    · refine wl_iconst (pc' := 98) dL_law_97 rfl ?_
                      refine wl_goto (pc' := 102) dL_law_98 (by decide) ?_
                      rw [← hc2]
                      exact law_102 (rC (rC t1 0) 0) nm9 s2 (r.2.1) H1 0 (0 + 1) (r.2.2) (zr0, zr0, 0, 0, 0, 0, 0, 0, 0, 0) 1 0 200 (okC_n h3 hnm9) w2 hh (rC_0 h2.1.1) (by omega) ⟨by decide, by decide⟩ rfl rfl q14 _ (by omega) _ _ (by decide) (by decide)
                  · exact absurd c78 (by omega)
      · exact absurd c28 (by omega)
