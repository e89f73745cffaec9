/-! rows: their characters, what the calls answer -/
def bR (r : zRw) : Prop := ∀ j : Int, 0 ≤ j → j < r.1 → -1 ≤ r.2 j ∧ r.2 j ≤ 65535
theorem bR_rA {r : zRw} (h : bR r) {c : Int} (hc : -1 ≤ c ∧ c ≤ 65535) : bR (rA r c) := by
  intro j j0 j1
  have j2 : j < r.1 + 1 := j1
  show -1 ≤ zup r.2 r.1 c j ∧ zup r.2 r.1 c j ≤ 65535
  unfold zup
  split
  · exact hc
  · exact h j j0 (by omega)
theorem bR_rL : ∀ (l : List Int) {r : zRw}, bR r → (∀ c ∈ l, -1 ≤ c ∧ c ≤ 65535) → bR (rL r l)
  | [], r, h, hc => h
  | c :: l, r, h, hc => bR_rL l (bR_rA h (hc c List.mem_cons_self)) (fun x hx => hc x (List.mem_cons_of_mem _ hx))
theorem rep_c {n : Nat} {f : Int} (hf : -1 ≤ f ∧ f ≤ 65535) : ∀ c ∈ List.replicate n f, -1 ≤ c ∧ c ≤ 65535 := by
  intro c hc
  rw [(List.mem_replicate.mp hc).2]
  exact hf
theorem noteL_c (p : Int) : ∀ c ∈ noteL p, -1 ≤ c ∧ c ≤ 65535 := by
  intro c hc
  have h9 : ∀ k : Nat, k < 7 → 65 ≤ (zBytes.getD 10 []).getD k 0 ∧ (zBytes.getD 10 []).getD k 0 ≤ 71 := by decide
  have h8 := h9 ((p - -1) % 7).toNat (by omega)
  unfold noteL at hc
  rcases List.mem_cons.mp hc with h | h
  · rw [h]; omega
  · have h2 := (List.mem_replicate.mp h).2
    split at h2 <;> omega
theorem nameL_c {q : Int} (r b : Int) (hq : 0 ≤ q ∧ q < 10) : ∀ c ∈ nameL r q b, -1 ≤ c ∧ c ≤ 65535 := by
  intro c hc
  unfold nameL at hc
  rcases List.mem_append.mp hc with h | h
  · exact noteL_c r c h
  · rcases List.mem_append.mp h with h | h
    · have := byte_c q.toNat (by omega) c h
      omega
    · split at h
      · exact absurd h (by simp)
      · rcases List.mem_cons.mp h with h | h
        · omega
        · exact noteL_c b c h
theorem bR_plO {s : zSh} {f : Int} {y : zLy} (hs : okN s) (hf : f = 32 ∨ f = 45) (h0 : 0 ≤ y.2.2.2.2.2.1 ∧ y.2.2.2.2.2.1 < s.2.2.2.2.1) (h : bR y.1 ∧ bR y.2.1) : bR (plO s f y).1 ∧ bR (plO s f y).2.1 := by
  obtain ⟨n1, n2, n3⟩ := hs y.2.2.2.2.2.1 h0.1 h0.2
  refine ⟨bR_rL _ (bR_rL _ h.1 (rep_c (by omega))) (nameL_c _ _ n2), ?_⟩
  show bR (plB y f)
  unfold plB
  split
  · exact bR_rL _ h.2 (rep_c (by omega))
  · exact h.2
theorem bR_plC {s : zSh} {i f : Int} (hs : okN s) (hf : f = 32 ∨ f = 45) : ∀ (m : Nat) (y : zLy), 0 ≤ y.2.2.2.2.2.1 → bR y.1 ∧ bR y.2.1 → (bR (plC s i f m y).1 ∧ bR (plC s i f m y).2.1) ∧ 0 ≤ (plC s i f m y).2.2.2.2.2.1
  | 0, y, h0, h => ⟨h, h0⟩
  | m + 1, y, h0, h => by
    rw [plC]
    split
    · rename_i c
      exact bR_plC hs hf m (plO s f y) (by show 0 ≤ y.2.2.2.2.2.1 + 1; omega) (bR_plO hs hf ⟨h0, c.1⟩ h)
    · exact ⟨h, h0⟩
theorem plcF_f (s : zSh) (y : zLy) (i : Int) : plcF s y i = 32 ∨ plcF s y i = 45 := by
  unfold plcF
  split <;> simp
theorem bR_layI {s : zSh} (hs : okN s) (hT : ∀ k : Int, 0 ≤ k → k ≤ 201 → 0 ≤ s.2.1 k ∧ s.2.1 k ≤ 200) (hL : ∀ j : Int, 0 ≤ j → j < 200 → 0 ≤ s.1 j ∧ s.1 j < 65536) : ∀ (m : Nat) (k : Int) (y : zLy), (0 ≤ y.2.2.1 ∧ y.2.2.1 ≤ 200) → 0 ≤ y.2.2.2.2.2.1 → bR y.1 ∧ bR y.2.1 → (bR (layI s m k y).1 ∧ bR (layI s m k y).2.1) ∧ 0 ≤ (layI s m k y).2.2.2.2.2.1
  | 0, k, y, hl, h0, h => ⟨h, h0⟩
  | m + 1, k, y, hl, h0, h => by
    have h1 := bR_plC (i := k) hs (plcF_f s y k) s.2.2.2.2.1.toNat y h0 h
    have h2 := ltr_b hT hL y.2.2.1 k hl
    have h3 : bR (layS s y k).2.1 := bR_rA h1.1.2 (by omega)
    rw [layI]
    exact bR_layI hs hT hL m (k + 1) (layS s y k) (by rw [layS_ln]; exact hl) h1.2 ⟨h1.1.1, h3⟩
theorem bR_0 : bR zr0 := fun j j0 j1 => absurd j1 (by show ¬ j < 0; omega)
theorem bR_layE {s : zSh} (hw : okW s) {l : Int} (hl : 0 ≤ l ∧ l < s.2.2.2.1) (a b : Int) : bR (layE s l a b (yB s l a)).1 ∧ bR (layE s l a b (yB s l a)).2.1 := by
  have hD := hw.1.1
  have hu := cUT_le s.2.2.1 l (a - 1) s.2.2.2.2.1.toNat 0
  have h1 := bR_layI hw.1.2.1 hD.2.2.1 hD.2.2.2.2.2 (b - a).toNat a (yB s l a) (by show 0 ≤ l ∧ l ≤ 200; have := hD.1; omega) (by show 0 ≤ cUT s.2.2.1 l (a - 1) s.2.2.2.2.1.toNat 0; omega) ⟨bR_0, bR_0⟩
  unfold layE
  split
  · exact (bR_plC hw.1.2.1 (plcF_f s _ b) s.2.2.2.2.1.toNat _ h1.2 h1.1).1
  · exact h1.1
/-- a row of the pair p: chords or lyrics -/
def RW (s : zSh) (l w p kd : Int) : zRw := if kd = 0 then (layE s l (itR s l w p.toNat 0) (edF s l w (itR s l w p.toNat 0)) (yB s l (itR s l w p.toNat 0))).1 else (layE s l (itR s l w p.toNat 0) (edF s l w (itR s l w p.toNat 0)) (yB s l (itR s l w p.toNat 0))).2.1
theorem RW_b {s : zSh} (hw : okW s) {l : Int} (w p kd : Int) (hl : 0 ≤ l ∧ l < s.2.2.2.1) : (0 ≤ (RW s l w p kd).1 ∧ (RW s l w p kd).1 ≤ 680) ∧ bR (RW s l w p kd) := by
  have hD := hw.1.1
  have z1 := hD.1
  have t1 := hD.2.2.1 l (by omega) (by omega)
  have t2 := hD.2.2.1 (l + 1) (by omega) (by omega)
  have t3 := hw.2.2.1 l (by omega) (by omega)
  have hi := itR_b (s := s) (l := l) (w := w) p.toNat 0 ⟨Int.le_refl _, by omega⟩
  have he := edF_b (s := s) (l := l) (w := w) hi
  have h1 := layE_sz (s := s) (l := l) (b := edF s l w (itR s l w p.toNat 0)) hw.1.2.1 hD.2.2.2.1.2 (by omega) (by omega) (yB_ok hw hl hi.1)
  have h2 := bR_layE hw hl (itR s l w p.toNat 0) (edF s l w (itR s l w p.toNat 0))
  unfold RW
  split
  · exact ⟨h1.1, h2.1⟩
  · exact ⟨h1.2, h2.2⟩
theorem RW_end {s : zSh} (hw : okW s) (l w p : Int) : endN (RW s l w p 0) := endN_layE hw.1.2.1 hw.1.1.2.2.2.1.1 l _ _
theorem RW_cnt {s : zSh} (hw : okW s) (hh : noH s) {l : Int} (w : Int) {p : Int} (hl : 0 ≤ l ∧ l < s.2.2.2.1) (hp : 0 ≤ p) : cB s l (itR s l w p.toNat 0).toNat + cR (RW s l w p 1).2 (RW s l w p 1).1.toNat = cB s l (itR s l w (p + 1).toNat 0).toNat := by
  have hD := hw.1.1
  have z1 := hD.1
  have t3 := hw.2.2.1 l (by omega) (by omega)
  have hi := itR_b (s := s) (l := l) (w := w) p.toNat 0 ⟨Int.le_refl _, by omega⟩
  have he := edF_b (s := s) (l := l) (w := w) hi
  have h1 := cR_layE hh hl hi.1 (b := edF s l w (itR s l w p.toNat 0)) (by omega) he.2
  rw [show (p + 1).toNat = p.toNat + 1 by omega, itR_sn, ← h1]
  exact Int.add_comm _ _
theorem okC_y {t nm : zRw} {s D : zSh} {H : Nat → zSh} {ol ct : Int} {k : zKd} {y : zLy} {si fl wi : Int} (h : okC (t, nm, s, D, H, ol, ct, k, y, si, fl, wi)) {y1 : zLy} (hq : okQ y1) : okC (t, nm, s, D, H, ol, ct, k, y1, si, fl, wi) := ⟨h.1, h.2.1, h.2.2.1, h.2.2.2.1, h.2.2.2.2.1, h.2.2.2.2.2.1, h.2.2.2.2.2.2.1, h.2.2.2.2.2.2.2.1, hq, h.2.2.2.2.2.2.2.2.2⟩
theorem okC_w {t nm : zRw} {s D : zSh} {H : Nat → zSh} {ol ct : Int} {k : zKd} {y : zLy} {si fl wi : Int} (h : okC (t, nm, s, D, H, ol, ct, k, y, si, fl, wi)) {w1 : Int} (hw1 : 10 ≤ w1 ∧ w1 ≤ 200) : okC (t, nm, s, D, H, ol, ct, k, y, si, fl, w1) := ⟨h.1, h.2.1, h.2.2.1, h.2.2.2.1, h.2.2.2.2.1, h.2.2.2.2.2.1, h.2.2.2.2.2.2.1, h.2.2.2.2.2.2.2.1, h.2.2.2.2.2.2.2.2.1, h.2.2.2.2.2.2.2.2.2.1, h.2.2.2.2.2.2.2.2.2.2.1, hw1⟩
theorem e_setWidth {t nm : zRw} {s D : zSh} {H : Nat → zSh} {ol ct : Int} {k : zKd} {y : zLy} {si fl wi : Int} {w1 : Int} (hw : 10 ≤ w1 ∧ w1 ≤ 200) : cs_setWidth w1 (t, nm, s, D, H, ol, ct, k, y, si, fl, wi) = (.inl (some (zI wi)), (t, nm, s, D, H, ol, ct, k, y, si, fl, w1)) := if_neg (by omega)
theorem e_lyric {t nm : zRw} {s D : zSh} {H : Nat → zSh} {ol ct : Int} {k : zKd} {y : zLy} {si fl wi : Int} {l c : Int} (hl : 0 ≤ l ∧ l < s.2.2.2.1) (hc : 0 ≤ c ∧ c < s.2.1 (l + 1) - s.2.1 l) : cs_lyric l c (t, nm, s, D, H, ol, ct, k, y, si, fl, wi) = (.inl (some (zI (ltr s.1 s.2.1 l c))), (t, nm, s, D, H, ol, ct, k, y, si, fl, wi)) := (if_neg (not_not_intro hl)).trans (if_neg (by omega))
theorem e_pairs {t nm : zRw} {s D : zSh} {H : Nat → zSh} {ol ct : Int} {k : zKd} {y : zLy} {si fl wi : Int} (h : okC (t, nm, s, D, H, ol, ct, k, y, si, fl, wi)) (hw : okW s) {l : Int} (hl : 0 ≤ l ∧ l < s.2.2.2.1) : ∃ y1 : zLy, okQ y1 ∧ cs_pairs l (t, nm, s, D, H, ol, ct, k, y, si, fl, wi) = (.inl (some (zI (prF s l wi))), (t, nm, s, D, H, ol, ct, k, y1, si, fl, wi)) := by
  have hD := hw.1.1
  have hq : okQ y := h.2.2.2.2.2.2.2.2.1
  have hwi : 10 ≤ wi ∧ wi ≤ 200 := h.2.2.2.2.2.2.2.2.2.2.2
  have z1 := hD.1
  refine ⟨(cntP s 201 0 (staL s y l wi)).2, cntQ hw.1.2.1 hD.2.2.2.1.2 hD.2.2.1 _ _ _ (staL_P hq (by omega) (by omega) hD.2.2.2.1.1), ?_⟩
  have e := cnt_0 hw (w := wi) hl hq (by omega)
  show (if ¬ (0 ≤ l ∧ l < s.2.2.2.1) then _ else _) = _
  rw [if_neg (not_not_intro hl), e]
theorem fnd_r {s : zSh} {y : zLy} {wi : Int} (hw : okW s) (hq : okQ y) (hwi : 10 ≤ wi ∧ wi ≤ 200) {l p kd : Int} (hl : 0 ≤ l ∧ l < s.2.2.2.1) (hp : 0 ≤ p ∧ p < prF s l wi) (hk : kd = 0 ∨ kd = 1) : ∃ y1 : zLy, (fndP s p 201 0 (if (0 ≤ l ∧ l < s.2.2.2.1) ∧ (kd = 0 ∨ kd = 1) ∧ (0 ≤ p ∧ p ≤ 200) then 1 else 0) (staL s y l wi)) = (1, y1) ∧ okQ y1 ∧ Req y1.1 (RW s l wi p 0) ∧ Req y1.2.1 (RW s l wi p 1) := by
  have hD := hw.1.1
  have h201 := prF_201 hw (w := wi) hl
  have hb := (fnd_0 hw (w := wi) (p := p) hl hq (by omega) (by omega)).1 hp.2
  have hQ := fndQ0 (l := l) (p := p) (kd := kd) (w := wi) hq (by omega) hD.1.2 hD.2.2.2.1.1 hD.2.2.2.1.2 hw.1.2.1 hD.2.2.1
  have hc : (0 ≤ l ∧ l < s.2.2.2.1) ∧ (kd = 0 ∨ kd = 1) ∧ (0 ≤ p ∧ p ≤ 200) := ⟨hl, hk, by omega⟩
  rw [if_pos hc] at hQ ⊢
  obtain ⟨h1, h2, h3⟩ := hb
  exact ⟨_, Prod.ext h1 rfl, hQ, h2, h3⟩
theorem e_rowLen {t nm : zRw} {s D : zSh} {H : Nat → zSh} {ol ct : Int} {k : zKd} {y : zLy} {si fl wi : Int} (h : okC (t, nm, s, D, H, ol, ct, k, y, si, fl, wi)) (hw : okW s) {l p kd : Int} (hl : 0 ≤ l ∧ l < s.2.2.2.1) (hp : 0 ≤ p ∧ p < prF s l wi) (hk : kd = 0 ∨ kd = 1) : ∃ y1 : zLy, okQ y1 ∧ cs_rowLength l p kd (t, nm, s, D, H, ol, ct, k, y, si, fl, wi) = (.inl (some (zI (RW s l wi p kd).1)), (t, nm, s, D, H, ol, ct, k, y1, si, fl, wi)) := by
  obtain ⟨y1, h1, h2, h3, h4⟩ := fnd_r hw (y := y) (wi := wi) h.2.2.2.2.2.2.2.2.1 h.2.2.2.2.2.2.2.2.2.2.2 hl hp hk
  refine ⟨y1, h2, ?_⟩
  unfold cs_rowLength
  dsimp only
  rw [h1]
  dsimp only
  rw [if_neg (show ¬ (1 : Int) = 0 by decide)]
  rcases hk with rfl | rfl
  · rw [if_pos rfl, h3.1]
  · rw [if_neg (show ¬ (1 : Int) = 0 by decide), h4.1]
theorem e_rowChr {t nm : zRw} {s D : zSh} {H : Nat → zSh} {ol ct : Int} {k : zKd} {y : zLy} {si fl wi : Int} (h : okC (t, nm, s, D, H, ol, ct, k, y, si, fl, wi)) (hw : okW s) {l p kd c : Int} (hl : 0 ≤ l ∧ l < s.2.2.2.1) (hp : 0 ≤ p ∧ p < prF s l wi) (hk : kd = 0 ∨ kd = 1) (hc : 0 ≤ c) : ∃ y1 : zLy, okQ y1 ∧ cs_rowChar l p kd c (t, nm, s, D, H, ol, ct, k, y, si, fl, wi) = (.inl (some (zI (if 0 ≤ c ∧ c < (RW s l wi p kd).1 then (RW s l wi p kd).2 c else -1))), (t, nm, s, D, H, ol, ct, k, y1, si, fl, wi)) := by
  obtain ⟨y1, h1, h2, h3, h4⟩ := fnd_r hw (y := y) (wi := wi) h.2.2.2.2.2.2.2.2.1 h.2.2.2.2.2.2.2.2.2.2.2 hl hp hk
  refine ⟨y1, h2, ?_⟩
  unfold cs_rowChar
  dsimp only
  rw [h1]
  dsimp only
  rw [if_neg (show ¬ (1 : Int) = 0 by decide), if_neg (show ¬ c < 0 by omega)]
  rcases hk with rfl | rfl
  · rw [if_pos rfl, h3.1]
    by_cases c9 : 0 ≤ c ∧ c < (RW s l wi p 0).1
    · rw [if_pos c9, if_pos c9, h3.2 c hc (by rw [h3.1]; exact c9.2)]
    · rw [if_neg c9, if_neg c9]
  · rw [if_neg (show ¬ (1 : Int) = 0 by decide), h4.1]
    by_cases c9 : 0 ≤ c ∧ c < (RW s l wi p 1).1
    · rw [if_pos c9, if_pos c9, h4.2 c hc (by rw [h4.1]; exact c9.2)]
    · rw [if_neg c9, if_neg c9]
theorem cB_b (s : zSh) (l : Int) : ∀ n : Nat, 0 ≤ cB s l n ∧ cB s l n ≤ n
  | 0 => ⟨Int.le_refl _, Int.le_refl _⟩
  | n + 1 => by
    have h := cB_b s l n
    rw [cB]
    split <;> omega
theorem cR_b (f : Int → Int) : ∀ n : Nat, 0 ≤ cR f n ∧ cR f n ≤ n
  | 0 => ⟨Int.le_refl _, Int.le_refl _⟩
  | n + 1 => by
    have h := cR_b f n
    rw [cR]
    unfold isG
    split <;> omega
theorem cR_s (f : Int → Int) {k : Int} (hk : 0 ≤ k) : cR f (k + 1).toNat = cR f k.toNat + isG (f k) := by
  rw [show (k + 1).toNat = k.toNat + 1 by omega, cR, show ((k.toNat : Nat) : Int) = k by omega]
theorem cB_s (s : zSh) (l : Int) {k : Int} (hk : 0 ≤ k) : cB s l (k + 1).toNat = cB s l k.toNat + (if ltr s.1 s.2.1 l k = 32 then 0 else 1) := by
  rw [show (k + 1).toNat = k.toNat + 1 by omega, cB, show ((k.toNat : Nat) : Int) = k by omega]
