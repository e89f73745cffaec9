/-! pairs -/
/-- between pairs: the next begins at a -/
def bP (s : zSh) (l w a : Int) (y : zLy) : Prop := okP s y ∧ y.2.2.1 = l ∧ y.2.2.2.1 = w ∧ (y.2.2.2.2.2.2.1 = a ∨ (y.2.2.2.2.2.2.1 = -1 ∧ a = 0)) ∧ (0 ≤ a ∧ a ≤ s.2.1 (l + 1) - s.2.1 l) ∧ (y.2.2.2.2.2.2.1 < s.2.1 (l + 1) - s.2.1 l → ptr s l a y.2.2.2.2.2.2.2.1)
theorem layN_E {s : zSh} (hs : okW s) {l w a : Int} {y : zLy} (hl : 0 ≤ l ∧ l < s.2.2.2.1) (hb : bP s l w a y) (hen : y.2.2.2.2.2.2.1 < s.2.1 (l + 1) - s.2.1 l) : bP s l w (edF s l w a) (layN s y) ∧ Req (layN s y).1 (layE s l a (edF s l w a) (yB s l a)).1 ∧ Req (layN s y).2.1 (layE s l a (edF s l w a) (yB s l a)).2.1 ∧ (layN s y).2.2.2.2.2.2.1 = edF s l w a := by
  obtain ⟨b1, b2, b3, b4, b5, b6⟩ := hb
  have hD := hs.1.1
  have hc := hD.2.2.2.1
  have z1 := hD.1
  have t1 := hD.2.2.1 l (by omega) (by omega)
  have t2 := hD.2.2.1 (l + 1) (by omega) (by omega)
  have hp := layN_P hs.1.2.1 hc.2 hD.2.2.1 b1
  have hmax : max y.2.2.2.2.2.2.1 0 = a := by omega
  have e1 : layN s y = layK s (s.2.1 (l + 1) - s.2.1 l) 201 a 1 (lay0 y) := by
    unfold layN
    rw [b2, hmax, if_neg (by omega)]
  have hyb := yB_ok hs (l := l) (a := a) hl b5.1
  have hch : y.2.2.2.2.2.2.2.1 = (yB s l a).2.2.2.2.2.1 := ptr_uq (b6 hen) (yB_ptr hs l a) b1.2.2.2.2.2.1 hyb.2.2.1
  have ra : (rC y.1 0).1 = 0 := rC_0 b1.1.1
  have rb : (rC y.2.1 0).1 = 0 := rC_0 b1.2.1.1
  have hq : rq (lay0 y) (zZ s l a a) := by
    rw [zZ_0]
    exact ⟨⟨ra, fun j j0 j1 => absurd j1 (by show ¬ j < (rC y.1 0).1; omega)⟩, ⟨rb, fun j j0 j1 => absurd j1 (by show ¬ j < (rC y.2.1 0).1; omega)⟩, b2, hch⟩
  have hk : kI s l w a a (lay0 y) := ⟨hq, b3, hmax, Or.inl ⟨rfl, fun c c0 c1 => absurd c1 (by omega)⟩⟩
  have hE := layK_E hs hl b5.1 201 a (lay0 y) (Int.le_refl _) b5.2 (by omega) hk
  rw [← e1] at hE
  obtain ⟨g1, g2, g3, g4, g5, g6⟩ := hE
  have hed := isE_e b5.1 g1
  have hb2 := edF_b (s := s) (l := l) (w := w) (a := a) b5
  rw [← hed] at g2 g3 g6
  refine ⟨⟨hp, g4, g5, Or.inl hed.symm, ⟨by omega, hb2.2⟩, ?_⟩, g2, g3, hed.symm⟩
  intro h
  rw [g6 (by omega)]
  exact zZ_ptr hs hl b5.1 (by omega)
theorem staL_b {s : zSh} (hs : okW s) {l w : Int} {y : zLy} (hl : 0 ≤ l ∧ l < s.2.2.2.1) (hq : okQ y) (hw : zin w) : bP s l w 0 (staL s y l w) := by
  have hD := hs.1.1
  have t3 := hs.2.2.1 l (by omega) (by omega)
  refine ⟨staL_P hq (by have := hD.1; omega) hw hD.2.2.2.1.1, rfl, rfl, Or.inr ⟨rfl, rfl⟩, ⟨Int.le_refl _, by omega⟩, fun _ => ?_⟩
  have h := yB_ptr hs l 0
  exact h
theorem layG_1 {s : zSh} {l : Int} {y : zLy} (h : y.2.2.1 = l) : layG s y = if s.2.1 (l + 1) - s.2.1 l ≤ y.2.2.2.2.2.2.1 then 0 else 1 := by unfold layG; rw [h]
theorem cnt_eq {s : zSh} (hs : okW s) {l w : Int} (hl : 0 ≤ l ∧ l < s.2.2.2.1) : ∀ (m m' : Nat) (a n : Int) (y : zLy), bP s l w a y → y.2.2.2.2.2.2.1 = a → (0 ≤ n ∧ n ≤ a + 1) → s.2.1 (l + 1) - s.2.1 l - a < m → s.2.1 (l + 1) - s.2.1 l - a < m' → (cntP s m n y).1 = prR s l w m' a n
  | 0, m', a, n, y, hb, _, _, h1, _ => absurd h1 (by have := hb.2.2.2.2.1; omega)
  | m + 1, 0, a, n, y, hb, _, _, _, h1 => absurd h1 (by have := hb.2.2.2.2.1; omega)
  | m + 1, m' + 1, a, n, y, hb, hen, hn, h1, h2 => by
    have b5 := hb.2.2.2.2.1
    have hD := hs.1.1
    have t1 := hD.2.2.1 l (by have := hD.1; omega) (by have := hD.1; omega)
    have t2 := hD.2.2.1 (l + 1) (by have := hD.1; omega) (by have := hD.1; omega)
    rw [cntP, prR, layG_1 hb.2.1, hen]
    by_cases hlt : a < s.2.1 (l + 1) - s.2.1 l
    · rw [if_neg (show ¬ 200 < n by omega), if_neg (show ¬ s.2.1 (l + 1) - s.2.1 l ≤ a by omega), if_neg (show ¬ (1 : Int) = 0 by decide), if_pos hlt]
      have hN := layN_E hs hl hb (by omega)
      have hb2 := edF_b (s := s) (l := l) (w := w) (a := a) b5
      exact cnt_eq hs hl m m' _ _ _ hN.1 hN.2.2.2 (by omega) (by omega) (by omega)
    · rw [if_pos (show s.2.1 (l + 1) - s.2.1 l ≤ a by omega), if_neg hlt]
      split
      · rfl
      · rw [if_pos rfl]
theorem prR_end {s : zSh} {l w k : Int} (h : ¬ k < s.2.1 (l + 1) - s.2.1 l) {m : Nat} {n : Int} : prR s l w m k n = n := by
  cases m with
  | zero => rfl
  | succ m => rw [prR, if_neg h]
theorem cnt_0 {s : zSh} (hs : okW s) {l w : Int} {y : zLy} (hl : 0 ≤ l ∧ l < s.2.2.2.1) (hq : okQ y) (hw : zin w) : (cntP s 201 0 (staL s y l w)).1 = prF s l w := by
  have hb := staL_b hs hl hq hw
  have hD := hs.1.1
  have z1 := hD.1
  have t1 := hD.2.2.1 l (by omega) (by omega)
  have t2 := hD.2.2.1 (l + 1) (by omega) (by omega)
  have b5 := hb.2.2.2.2.1
  have hN := layN_E hs hl hb (show (-1 : Int) < _ by omega)
  have hb2 := edF_b (s := s) (l := l) (w := w) (a := 0) b5
  have hg : layG s (staL s y l w) = 1 := by
    rw [layG_1 (l := l) rfl]
    exact if_neg (show ¬ s.2.1 (l + 1) - s.2.1 l ≤ (-1 : Int) by omega)
  rw [cntP, if_neg (show ¬ (200 : Int) < 0 by decide), hg, if_neg (show ¬ (1 : Int) = 0 by decide)]
  unfold prF
  rw [cnt_eq hs hl 200 200 (edF s l w 0) (0 + 1) (layN s (staL s y l w)) hN.1 hN.2.2.2 (by omega) (by omega) (by omega)]
  by_cases h0 : s.2.1 (l + 1) - s.2.1 l = 0
  · rw [if_pos h0, prR_end (k := edF s l w 0) (by omega), prR_end (k := 0) (by omega)]
    rfl
  · rw [if_neg h0, prR.eq_def s l w 201 0 0]
    exact (if_pos (by omega)).symm
theorem fnd_eq {s : zSh} (hs : okW s) {l w p : Int} (hl : 0 ≤ l ∧ l < s.2.2.2.1) : ∀ (m m' : Nat) (a k : Int) (y : zLy), bP s l w a y → y.2.2.2.2.2.2.1 = a → (0 ≤ k ∧ k ≤ p) → p + 1 - k ≤ m → s.2.1 (l + 1) - s.2.1 l - a < m' → ((p < prR s l w m' a k → (fndP s p m k 1 y).1 = 1 ∧ Req (fndP s p m k 1 y).2.1 (layE s l (itR s l w (p - k).toNat a) (edF s l w (itR s l w (p - k).toNat a)) (yB s l (itR s l w (p - k).toNat a))).1 ∧ Req (fndP s p m k 1 y).2.2.1 (layE s l (itR s l w (p - k).toNat a) (edF s l w (itR s l w (p - k).toNat a)) (yB s l (itR s l w (p - k).toNat a))).2.1) ∧ (¬ p < prR s l w m' a k → (fndP s p m k 1 y).1 = 0))
  | 0, m', a, k, y, hb, _, hk, h1, _ => absurd h1 (by omega)
  | m + 1, 0, a, k, y, hb, _, _, _, h1 => absurd h1 (by have := hb.2.2.2.2.1; omega)
  | m + 1, m' + 1, a, k, y, hb, hen, hk, h1, h2 => by
    have b5 := hb.2.2.2.2.1
    rw [fndP, if_neg (show ¬ ((1 : Int) = 0 ∨ p < k) by omega), prR, layG_1 hb.2.1, hen]
    by_cases hlt : a < s.2.1 (l + 1) - s.2.1 l
    · rw [if_neg (show ¬ s.2.1 (l + 1) - s.2.1 l ≤ a by omega), if_pos hlt]
      have hN := layN_E hs hl hb (by omega)
      have hb2 := edF_b (s := s) (l := l) (w := w) (a := a) b5
      by_cases hkp : k = p
      · have e0 : (p - k).toNat = 0 := by omega
        have e1 : fndP s p m (k + 1) 1 (layN s y) = (1, layN s y) := by
          cases m with
          | zero => rfl
          | succ m => rw [fndP, if_pos (Or.inr (by omega))]
        have hpr := prR_b s l w m' (edF s l w a) (k + 1)
        rw [e1, e0]
        exact ⟨fun _ => ⟨rfl, hN.2.1, hN.2.2.1⟩, fun h => absurd h (by omega)⟩
      · have e0 : (p - k).toNat = (p - (k + 1)).toNat + 1 := by omega
        rw [e0]
        exact fnd_eq hs hl m m' _ _ _ hN.1 hN.2.2.2 (by omega) (by omega) (by omega)
    · rw [if_pos (show s.2.1 (l + 1) - s.2.1 l ≤ a by omega), if_neg hlt]
      have e1 : (fndP s p m (k + 1) 0 (layN s y)).1 = 0 := by
        cases m with
        | zero => rfl
        | succ m => rw [fndP, if_pos (Or.inl rfl)]
      exact ⟨fun h => absurd h (by omega), fun _ => e1⟩
theorem fnd_0 {s : zSh} (hs : okW s) {l w p : Int} {y : zLy} (hl : 0 ≤ l ∧ l < s.2.2.2.1) (hq : okQ y) (hw : zin w) (hp : 0 ≤ p ∧ p ≤ 200) : (p < prF s l w → (fndP s p 201 0 1 (staL s y l w)).1 = 1 ∧ Req (fndP s p 201 0 1 (staL s y l w)).2.1 (layE s l (itR s l w p.toNat 0) (edF s l w (itR s l w p.toNat 0)) (yB s l (itR s l w p.toNat 0))).1 ∧ Req (fndP s p 201 0 1 (staL s y l w)).2.2.1 (layE s l (itR s l w p.toNat 0) (edF s l w (itR s l w p.toNat 0)) (yB s l (itR s l w p.toNat 0))).2.1) ∧ (¬ p < prF s l w → (fndP s p 201 0 1 (staL s y l w)).1 = 0) := by
  have hb := staL_b hs hl hq hw
  have hD := hs.1.1
  have z1 := hD.1
  have t1 := hD.2.2.1 l (by omega) (by omega)
  have t2 := hD.2.2.1 (l + 1) (by omega) (by omega)
  have b5 := hb.2.2.2.2.1
  have hN := layN_E hs hl hb (show (-1 : Int) < _ by omega)
  have hb2 := edF_b (s := s) (l := l) (w := w) (a := 0) b5
  have hg : layG s (staL s y l w) = 1 := by
    rw [layG_1 (l := l) rfl]
    exact if_neg (show ¬ s.2.1 (l + 1) - s.2.1 l ≤ (-1 : Int) by omega)
  have hpr : prF s l w = prR s l w 200 (edF s l w 0) (0 + 1) := by
    unfold prF
    by_cases h0 : s.2.1 (l + 1) - s.2.1 l = 0
    · rw [if_pos h0, prR_end (k := edF s l w 0) (by omega), prR_end (k := 0) (by omega)]
      rfl
    · rw [if_neg h0, prR.eq_def s l w 201 0 0]
      exact if_pos (by omega)
  rw [fndP, if_neg (show ¬ ((1 : Int) = 0 ∨ p < 0) by omega), hg, hpr]
  by_cases hkp : p = 0
  · have e1 : fndP s p 200 (0 + 1) 1 (layN s (staL s y l w)) = (1, layN s (staL s y l w)) := by
      rw [fndP, if_pos (Or.inr (by omega))]
    have hpb := prR_b s l w 200 (edF s l w 0) (0 + 1)
    rw [e1, hkp]
    exact ⟨fun _ => ⟨rfl, hN.2.1, hN.2.2.1⟩, fun h => absurd h (by omega)⟩
  · have h := fnd_eq hs hl (p := p) 200 200 (edF s l w 0) (0 + 1) (layN s (staL s y l w)) hN.1 hN.2.2.2 (by omega) (by omega) (by omega)
    have e0 : p.toNat = (p - (0 + 1)).toNat + 1 := by omega
    rw [e0]
    exact h

theorem cntQ {s : zSh} (hs : okN s) (hc : s.2.2.2.2.1 ≤ 40) (hT : ∀ k : Int, 0 ≤ k → k ≤ 201 → 0 ≤ s.2.1 k ∧ s.2.1 k ≤ 200) : ∀ (m : Nat) (n : Int) (y : zLy), okP s y → okQ (cntP s m n y).2
  | 0, _, y, h => ⟨h.1, h.2.1, h.2.2.1, h.2.2.2.1⟩
  | m + 1, n, y, h => by
    have h4 := layN_P hs hc hT h
    rw [cntP]
    split
    · exact ⟨h.1, h.2.1, h.2.2.1, h.2.2.2.1⟩
    · split
      · exact ⟨h4.1, h4.2.1, h4.2.2.1, h4.2.2.2.1⟩
      · exact cntQ hs hc hT m _ _ h4
theorem prF_201 {s : zSh} (hs : okW s) {l w : Int} (hl : 0 ≤ l ∧ l < s.2.2.2.1) : prF s l w ≤ 201 := by
  have hD := hs.1.1
  have t3 := hs.2.2.1 l (by omega) (by omega)
  unfold prF
  by_cases h0 : s.2.1 (l + 1) - s.2.1 l = 0
  · rw [if_pos h0, prR, if_neg (by omega)]; decide
  · rw [if_neg h0]
    have := prR_b s l w 201 0 0
    omega
set_option maxHeartbeats 1000000 in
theorem r_pairs (t nm : zRw) (s D : zSh) (H : Nat → zSh) (ol ct : Int) (k : zKd) (y : zLy) (si fl wi : Int) (v pa tx : Int → Int) (th ap nt rr rq rb wh : Int) (md na : Int → Int) (nd : Int) (up lo : Int → Int) (us lw : Int) (h : RelM (t, nm, s, D, H, ol, ct, k, y, si, fl, wi) v pa tx) (l : Int) (hl : zin l) : zMetW q_X10_pairs 7 0 0 [zR 0, zI l] (wM v pa ct tx t.1 si fl wi th ap nt rr rq rb wh md na nd up lo us lw) (Gl cd1 (cs_pairs l (t, nm, s, D, H, ol, ct, k, y, si, fl, wi))) := by
  obtain ⟨⟨hT9, hnm, hs9, hD9, hH9, hol, hct, hk9, hq9, hsi, hfl, hwi⟩, hs, hv, hx, hh⟩ := id h
  have hwz : zin wi := ⟨by omega, by omega⟩
  have M9 := k_X10_pairs s v pa ct tx t.1 si fl wi th ap nt rr rq rb wh md (us, up) (lw, lo) (nd, na) l hs hv hl hwz
  by_cases hC : 0 ≤ l ∧ l < s.2.2.2.1
  · have e9 := cnt_0 (y := y) hs hC hq9 hwz
    have hq2 : okQ (cntP s 201 0 (staL s y l wi)).2 := cntQ hs.1.2.1 hs.1.1.2.2.2.1.2 hs.1.1.2.2.1 _ _ _ (staL_P hq9 (by have := hs.1.1.1; omega) hwz hs.1.1.2.2.2.1.1)
    refine ⟨_, M9, ?_⟩
    rintro o w' ⟨x9, _, rfl, rfl⟩
    exact Gl_i (p := .inl (some (zI (prF s l wi)))) (c := (t, nm, s, D, H, ol, ct, k, (cntP s 201 0 (staL s y l wi)).2, si, fl, wi)) (by rw [cs_pairs, if_neg (fun h => h hC), e9]) (v, pa, tx, 0, ap, nt, rr, rq, rb, wh, md, x9.2.2.2, x9.2.2.1, x9.1.2, x9.2.1.2, x9.1.1, x9.2.1.1) (zI (prF s l wi)) ⟨⟨hT9, hnm, hs9, hD9, hH9, hol, hct, hk9, hq2, hsi, hfl, hwi⟩, hs, hv, hx, hh⟩ ⟨rfl, rfl⟩ (by rw [if_pos hC]) (by rw [if_pos hC] <;> rfl)
  · 
    refine ⟨_, M9, ?_⟩
    rintro o w' ⟨x9, _, rfl, rfl⟩
    exact Gl_i (p := .inr eIO) (c := (t, nm, s, D, H, ol, ct, k, y, si, fl, wi)) (by rw [cs_pairs, if_pos hC]) (v, pa, tx, 1, ap, nt, rr, rq, rb, wh, md, x9.2.2.2, x9.2.2.1, x9.1.2, x9.2.1.2, x9.1.1, x9.2.1.1) (zI 0) h ⟨rfl, 0, rfl⟩ (by rw [if_neg hC]) (by rw [if_neg hC] <;> rfl)

set_option maxHeartbeats 1000000 in
theorem r_rowLength (t nm : zRw) (s D : zSh) (H : Nat → zSh) (ol ct : Int) (k : zKd) (y : zLy) (si fl wi : Int) (v pa tx : Int → Int) (th ap nt rr rq rb wh : Int) (md na : Int → Int) (nd : Int) (up lo : Int → Int) (us lw : Int) (h : RelM (t, nm, s, D, H, ol, ct, k, y, si, fl, wi) v pa tx) (l : Int) (hl : zin l) (p : Int) (hp : zin p) (r : Int) (hr : zin r) : zMetW q_X10_rowLength 8 0 0 [zR 0, zI l, zI p, zI r] (wM v pa ct tx t.1 si fl wi th ap nt rr rq rb wh md na nd up lo us lw) (Gl cd1 (cs_rowLength l p r (t, nm, s, D, H, ol, ct, k, y, si, fl, wi))) := by
  obtain ⟨⟨hT9, hnm, hs9, hD9, hH9, hol, hct, hk9, hq9, hsi, hfl, hwi⟩, hs, hv, hx, hh⟩ := id h
  have hwz : zin wi := ⟨by omega, by omega⟩
  have hq2 : okQ (fndP s p 201 0 (if (0 ≤ l ∧ l < s.2.2.2.1) ∧ (r = 0 ∨ r = 1) ∧ (0 ≤ p ∧ p ≤ 200) then 1 else 0) (staL s y l wi)).2 := fndQ0 hq9 hwz (by have := hs.1.1.1; omega) hs.1.1.2.2.2.1.1 hs.1.1.2.2.2.1.2 hs.1.2.1 hs.1.1.2.2.1
  have hF : (((0 ≤ l ∧ l < s.2.2.2.1) ∧ (0 ≤ r ∧ r ≤ 1) ∧ (0 ≤ p ∧ p < prF s l wi)) → (fndP s p 201 0 (if (0 ≤ l ∧ l < s.2.2.2.1) ∧ (r = 0 ∨ r = 1) ∧ (0 ≤ p ∧ p ≤ 200) then 1 else 0) (staL s y l wi)).1 = 1 ∧ Req (fndP s p 201 0 (if (0 ≤ l ∧ l < s.2.2.2.1) ∧ (r = 0 ∨ r = 1) ∧ (0 ≤ p ∧ p ≤ 200) then 1 else 0) (staL s y l wi)).2.1 (layE s l (itR s l wi p.toNat 0) (edF s l wi (itR s l wi p.toNat 0)) (yB s l (itR s l wi p.toNat 0))).1 ∧ Req (fndP s p 201 0 (if (0 ≤ l ∧ l < s.2.2.2.1) ∧ (r = 0 ∨ r = 1) ∧ (0 ≤ p ∧ p ≤ 200) then 1 else 0) (staL s y l wi)).2.2.1 (layE s l (itR s l wi p.toNat 0) (edF s l wi (itR s l wi p.toNat 0)) (yB s l (itR s l wi p.toNat 0))).2.1) ∧ (¬ ((0 ≤ l ∧ l < s.2.2.2.1) ∧ (0 ≤ r ∧ r ≤ 1) ∧ (0 ≤ p ∧ p < prF s l wi)) → (fndP s p 201 0 (if (0 ≤ l ∧ l < s.2.2.2.1) ∧ (r = 0 ∨ r = 1) ∧ (0 ≤ p ∧ p ≤ 200) then 1 else 0) (staL s y l wi)).1 = 0) := by
    by_cases hv9 : (0 ≤ l ∧ l < s.2.2.2.1) ∧ (r = 0 ∨ r = 1) ∧ (0 ≤ p ∧ p ≤ 200)
    · rw [if_pos hv9]
      have h9 := fnd_0 (y := y) (w := wi) hs hv9.1 hq9 hwz hv9.2.2
      exact ⟨fun hc => h9.1 hc.2.2.2, fun hc => h9.2 (fun h => hc ⟨hv9.1, by omega, by omega, h⟩)⟩
    · rw [if_neg hv9]
      refine ⟨fun hc => absurd ⟨hc.1, by omega, by have := prF_201 hs (w := wi) hc.1; omega⟩ hv9, fun _ => ?_⟩
      rw [fndP, if_pos (Or.inl rfl)]
  by_cases hC : (0 ≤ l ∧ l < s.2.2.2.1) ∧ (0 ≤ r ∧ r ≤ 1) ∧ (0 ≤ p ∧ p < prF s l wi)
  · obtain ⟨f1, f2, f3⟩ := hF.1 hC
    have e9 : (if r = 0 then (layE s l (itR s l wi p.toNat 0) (edF s l wi (itR s l wi p.toNat 0)) (yB s l (itR s l wi p.toNat 0))).1.1 else (layE s l (itR s l wi p.toNat 0) (edF s l wi (itR s l wi p.toNat 0)) (yB s l (itR s l wi p.toNat 0))).2.1.1) = (if r = 0 then (fndP s p 201 0 (if (0 ≤ l ∧ l < s.2.2.2.1) ∧ (r = 0 ∨ r = 1) ∧ (0 ≤ p ∧ p ≤ 200) then 1 else 0) (staL s y l wi)).2.1.1 else (fndP s p 201 0 (if (0 ≤ l ∧ l < s.2.2.2.1) ∧ (r = 0 ∨ r = 1) ∧ (0 ≤ p ∧ p ≤ 200) then 1 else 0) (staL s y l wi)).2.2.1.1) := by rw [f2.1, f3.1]
    refine ⟨_, k_X10_rowLength1 s v pa ct tx t.1 si fl wi th ap nt rr rq rb wh md (us, up) (lw, lo) (nd, na) l p r hs hv hl hp hr hwz hC, ?_⟩
    rintro o w' ⟨x9, _, rfl, rfl⟩
    exact Gl_i (p := .inl (some (zI (if r = 0 then (fndP s p 201 0 (if (0 ≤ l ∧ l < s.2.2.2.1) ∧ (r = 0 ∨ r = 1) ∧ (0 ≤ p ∧ p ≤ 200) then 1 else 0) (staL s y l wi)).2.1.1 else (fndP s p 201 0 (if (0 ≤ l ∧ l < s.2.2.2.1) ∧ (r = 0 ∨ r = 1) ∧ (0 ≤ p ∧ p ≤ 200) then 1 else 0) (staL s y l wi)).2.2.1.1)))) (c := (t, nm, s, D, H, ol, ct, k, (fndP s p 201 0 (if (0 ≤ l ∧ l < s.2.2.2.1) ∧ (r = 0 ∨ r = 1) ∧ (0 ≤ p ∧ p ≤ 200) then 1 else 0) (staL s y l wi)).2, si, fl, wi)) (by rw [cs_rowLength, if_neg (by omega)]; by_cases h0 : r = 0; rw [if_pos h0, if_pos h0]; rw [if_neg h0, if_neg h0]) (v, pa, tx, 0, ap, nt, rr, rq, rb, wh, md, x9.2.2.2, x9.2.2.1, x9.1.2, x9.2.1.2, x9.1.1, x9.2.1.1) (zI (if r = 0 then (fndP s p 201 0 (if (0 ≤ l ∧ l < s.2.2.2.1) ∧ (r = 0 ∨ r = 1) ∧ (0 ≤ p ∧ p ≤ 200) then 1 else 0) (staL s y l wi)).2.1.1 else (fndP s p 201 0 (if (0 ≤ l ∧ l < s.2.2.2.1) ∧ (r = 0 ∨ r = 1) ∧ (0 ≤ p ∧ p ≤ 200) then 1 else 0) (staL s y l wi)).2.2.1.1)) ⟨⟨hT9, hnm, hs9, hD9, hH9, hol, hct, hk9, hq2, hsi, hfl, hwi⟩, hs, hv, hx, hh⟩ ⟨rfl, rfl⟩ (by rw [e9]) rfl
  · 
    refine ⟨_, k_X10_rowLength0 s v pa ct tx t.1 si fl wi th ap nt rr rq rb wh md (us, up) (lw, lo) (nd, na) l p r hs hv hl hp hr hwz hC, ?_⟩
    rintro o w' ⟨x9, _, rfl, rfl⟩
    exact Gl_i (p := .inr eIO) (c := (t, nm, s, D, H, ol, ct, k, (fndP s p 201 0 (if (0 ≤ l ∧ l < s.2.2.2.1) ∧ (r = 0 ∨ r = 1) ∧ (0 ≤ p ∧ p ≤ 200) then 1 else 0) (staL s y l wi)).2, si, fl, wi)) (by rw [cs_rowLength, if_pos (hF.2 hC)]) (v, pa, tx, 1, ap, nt, rr, rq, rb, wh, md, x9.2.2.2, x9.2.2.1, x9.1.2, x9.2.1.2, x9.1.1, x9.2.1.1) (zI 0) ⟨⟨hT9, hnm, hs9, hD9, hH9, hol, hct, hk9, hq2, hsi, hfl, hwi⟩, hs, hv, hx, hh⟩ ⟨rfl, 0, rfl⟩ rfl rfl

set_option maxHeartbeats 1000000 in
theorem r_rowChar (t nm : zRw) (s D : zSh) (H : Nat → zSh) (ol ct : Int) (k : zKd) (y : zLy) (si fl wi : Int) (v pa tx : Int → Int) (th ap nt rr rq rb wh : Int) (md na : Int → Int) (nd : Int) (up lo : Int → Int) (us lw : Int) (h : RelM (t, nm, s, D, H, ol, ct, k, y, si, fl, wi) v pa tx) (l : Int) (hl : zin l) (p : Int) (hp : zin p) (r : Int) (hr : zin r) (c : Int) (hc : zin c) : zMetW q_X10_rowChar 8 0 0 [zR 0, zI l, zI p, zI r, zI c] (wM v pa ct tx t.1 si fl wi th ap nt rr rq rb wh md na nd up lo us lw) (Gl cd1 (cs_rowChar l p r c (t, nm, s, D, H, ol, ct, k, y, si, fl, wi))) := by
  obtain ⟨⟨hT9, hnm, hs9, hD9, hH9, hol, hct, hk9, hq9, hsi, hfl, hwi⟩, hs, hv, hx, hh⟩ := id h
  have hwz : zin wi := ⟨by omega, by omega⟩
  have hq2 : okQ (fndP s p 201 0 (if (0 ≤ l ∧ l < s.2.2.2.1) ∧ (r = 0 ∨ r = 1) ∧ (0 ≤ p ∧ p ≤ 200) then 1 else 0) (staL s y l wi)).2 := fndQ0 hq9 hwz (by have := hs.1.1.1; omega) hs.1.1.2.2.2.1.1 hs.1.1.2.2.2.1.2 hs.1.2.1 hs.1.1.2.2.1
  have hF : (((0 ≤ l ∧ l < s.2.2.2.1) ∧ (0 ≤ r ∧ r ≤ 1) ∧ (0 ≤ p ∧ p < prF s l wi)) → (fndP s p 201 0 (if (0 ≤ l ∧ l < s.2.2.2.1) ∧ (r = 0 ∨ r = 1) ∧ (0 ≤ p ∧ p ≤ 200) then 1 else 0) (staL s y l wi)).1 = 1 ∧ Req (fndP s p 201 0 (if (0 ≤ l ∧ l < s.2.2.2.1) ∧ (r = 0 ∨ r = 1) ∧ (0 ≤ p ∧ p ≤ 200) then 1 else 0) (staL s y l wi)).2.1 (layE s l (itR s l wi p.toNat 0) (edF s l wi (itR s l wi p.toNat 0)) (yB s l (itR s l wi p.toNat 0))).1 ∧ Req (fndP s p 201 0 (if (0 ≤ l ∧ l < s.2.2.2.1) ∧ (r = 0 ∨ r = 1) ∧ (0 ≤ p ∧ p ≤ 200) then 1 else 0) (staL s y l wi)).2.2.1 (layE s l (itR s l wi p.toNat 0) (edF s l wi (itR s l wi p.toNat 0)) (yB s l (itR s l wi p.toNat 0))).2.1) ∧ (¬ ((0 ≤ l ∧ l < s.2.2.2.1) ∧ (0 ≤ r ∧ r ≤ 1) ∧ (0 ≤ p ∧ p < prF s l wi)) → (fndP s p 201 0 (if (0 ≤ l ∧ l < s.2.2.2.1) ∧ (r = 0 ∨ r = 1) ∧ (0 ≤ p ∧ p ≤ 200) then 1 else 0) (staL s y l wi)).1 = 0) := by
    by_cases hv9 : (0 ≤ l ∧ l < s.2.2.2.1) ∧ (r = 0 ∨ r = 1) ∧ (0 ≤ p ∧ p ≤ 200)
    · rw [if_pos hv9]
      have h9 := fnd_0 (y := y) (w := wi) hs hv9.1 hq9 hwz hv9.2.2
      exact ⟨fun hc => h9.1 hc.2.2.2, fun hc => h9.2 (fun h => hc ⟨hv9.1, by omega, by omega, h⟩)⟩
    · rw [if_neg hv9]
      refine ⟨fun hc => absurd ⟨hc.1, by omega, by have := prF_201 hs (w := wi) hc.1; omega⟩ hv9, fun _ => ?_⟩
      rw [fndP, if_pos (Or.inl rfl)]
  by_cases hC : ((0 ≤ l ∧ l < s.2.2.2.1) ∧ (0 ≤ r ∧ r ≤ 1) ∧ (0 ≤ p ∧ p < prF s l wi)) ∧ 0 ≤ c
  · obtain ⟨f1, f2, f3⟩ := hF.1 hC.1
    have g2 : (if 0 ≤ c ∧ c < (fndP s p 201 0 (if (0 ≤ l ∧ l < s.2.2.2.1) ∧ (r = 0 ∨ r = 1) ∧ (0 ≤ p ∧ p ≤ 200) then 1 else 0) (staL s y l wi)).2.1.1 then (fndP s p 201 0 (if (0 ≤ l ∧ l < s.2.2.2.1) ∧ (r = 0 ∨ r = 1) ∧ (0 ≤ p ∧ p ≤ 200) then 1 else 0) (staL s y l wi)).2.1.2 c else -1) = (if c < (layE s l (itR s l wi p.toNat 0) (edF s l wi (itR s l wi p.toNat 0)) (yB s l (itR s l wi p.toNat 0))).1.1 then (layE s l (itR s l wi p.toNat 0) (edF s l wi (itR s l wi p.toNat 0)) (yB s l (itR s l wi p.toNat 0))).1.2 c else -1) := by
      by_cases q : c < (layE s l (itR s l wi p.toNat 0) (edF s l wi (itR s l wi p.toNat 0)) (yB s l (itR s l wi p.toNat 0))).1.1
      · rw [if_pos ⟨hC.2, by rw [f2.1]; exact q⟩, if_pos q, f2.2 c hC.2 (by rw [f2.1]; exact q)]
      · rw [if_neg (fun h => q (by rw [← f2.1]; exact h.2)), if_neg q]
    have g3 : (if 0 ≤ c ∧ c < (fndP s p 201 0 (if (0 ≤ l ∧ l < s.2.2.2.1) ∧ (r = 0 ∨ r = 1) ∧ (0 ≤ p ∧ p ≤ 200) then 1 else 0) (staL s y l wi)).2.2.1.1 then (fndP s p 201 0 (if (0 ≤ l ∧ l < s.2.2.2.1) ∧ (r = 0 ∨ r = 1) ∧ (0 ≤ p ∧ p ≤ 200) then 1 else 0) (staL s y l wi)).2.2.1.2 c else -1) = (if c < (layE s l (itR s l wi p.toNat 0) (edF s l wi (itR s l wi p.toNat 0)) (yB s l (itR s l wi p.toNat 0))).2.1.1 then (layE s l (itR s l wi p.toNat 0) (edF s l wi (itR s l wi p.toNat 0)) (yB s l (itR s l wi p.toNat 0))).2.1.2 c else -1) := by
      by_cases q : c < (layE s l (itR s l wi p.toNat 0) (edF s l wi (itR s l wi p.toNat 0)) (yB s l (itR s l wi p.toNat 0))).2.1.1
      · rw [if_pos ⟨hC.2, by rw [f3.1]; exact q⟩, if_pos q, f3.2 c hC.2 (by rw [f3.1]; exact q)]
      · rw [if_neg (fun h => q (by rw [← f3.1]; exact h.2)), if_neg q]
    refine ⟨_, k_X10_rowChar1 s v pa ct tx t.1 si fl wi th ap nt rr rq rb wh md (us, up) (lw, lo) (nd, na) l p r c hs hv hl hp hr hwz hc hC, ?_⟩
    rintro o w' ⟨x9, _, rfl, rfl⟩
    exact Gl_i (p := .inl (some (zI (if r = 0 then (if 0 ≤ c ∧ c < (fndP s p 201 0 (if (0 ≤ l ∧ l < s.2.2.2.1) ∧ (r = 0 ∨ r = 1) ∧ (0 ≤ p ∧ p ≤ 200) then 1 else 0) (staL s y l wi)).2.1.1 then (fndP s p 201 0 (if (0 ≤ l ∧ l < s.2.2.2.1) ∧ (r = 0 ∨ r = 1) ∧ (0 ≤ p ∧ p ≤ 200) then 1 else 0) (staL s y l wi)).2.1.2 c else -1) else (if 0 ≤ c ∧ c < (fndP s p 201 0 (if (0 ≤ l ∧ l < s.2.2.2.1) ∧ (r = 0 ∨ r = 1) ∧ (0 ≤ p ∧ p ≤ 200) then 1 else 0) (staL s y l wi)).2.2.1.1 then (fndP s p 201 0 (if (0 ≤ l ∧ l < s.2.2.2.1) ∧ (r = 0 ∨ r = 1) ∧ (0 ≤ p ∧ p ≤ 200) then 1 else 0) (staL s y l wi)).2.2.1.2 c else -1))))) (c := (t, nm, s, D, H, ol, ct, k, (fndP s p 201 0 (if (0 ≤ l ∧ l < s.2.2.2.1) ∧ (r = 0 ∨ r = 1) ∧ (0 ≤ p ∧ p ≤ 200) then 1 else 0) (staL s y l wi)).2, si, fl, wi)) (by rw [cs_rowChar, if_neg (by omega), if_neg (by omega)]; by_cases h0 : r = 0; rw [if_pos h0, if_pos h0]; rw [if_neg h0, if_neg h0]) (v, pa, tx, 0, ap, nt, rr, rq, rb, wh, md, x9.2.2.2, x9.2.2.1, x9.1.2, x9.2.1.2, x9.1.1, x9.2.1.1) (zI (if r = 0 then (if 0 ≤ c ∧ c < (fndP s p 201 0 (if (0 ≤ l ∧ l < s.2.2.2.1) ∧ (r = 0 ∨ r = 1) ∧ (0 ≤ p ∧ p ≤ 200) then 1 else 0) (staL s y l wi)).2.1.1 then (fndP s p 201 0 (if (0 ≤ l ∧ l < s.2.2.2.1) ∧ (r = 0 ∨ r = 1) ∧ (0 ≤ p ∧ p ≤ 200) then 1 else 0) (staL s y l wi)).2.1.2 c else -1) else (if 0 ≤ c ∧ c < (fndP s p 201 0 (if (0 ≤ l ∧ l < s.2.2.2.1) ∧ (r = 0 ∨ r = 1) ∧ (0 ≤ p ∧ p ≤ 200) then 1 else 0) (staL s y l wi)).2.2.1.1 then (fndP s p 201 0 (if (0 ≤ l ∧ l < s.2.2.2.1) ∧ (r = 0 ∨ r = 1) ∧ (0 ≤ p ∧ p ≤ 200) then 1 else 0) (staL s y l wi)).2.2.1.2 c else -1))) ⟨⟨hT9, hnm, hs9, hD9, hH9, hol, hct, hk9, hq2, hsi, hfl, hwi⟩, hs, hv, hx, hh⟩ ⟨rfl, rfl⟩ (by rw [g2, g3]) rfl
  · 
    refine ⟨_, k_X10_rowChar0 s v pa ct tx t.1 si fl wi th ap nt rr rq rb wh md (us, up) (lw, lo) (nd, na) l p r c hs hv hl hp hr hwz hc hC, ?_⟩
    rintro o w' ⟨x9, _, rfl, rfl⟩
    exact Gl_i (p := .inr eIO) (c := (t, nm, s, D, H, ol, ct, k, (fndP s p 201 0 (if (0 ≤ l ∧ l < s.2.2.2.1) ∧ (r = 0 ∨ r = 1) ∧ (0 ≤ p ∧ p ≤ 200) then 1 else 0) (staL s y l wi)).2, si, fl, wi)) (by rw [cs_rowChar]; rcases Decidable.em ((0 ≤ l ∧ l < s.2.2.2.1) ∧ (0 ≤ r ∧ r ≤ 1) ∧ (0 ≤ p ∧ p < prF s l wi)) with h0 | h0 <;> first | rw [if_pos (hF.2 h0)] | rw [if_neg (by have := (hF.1 h0).1; omega), if_pos (by omega)]) (v, pa, tx, 1, ap, nt, rr, rq, rb, wh, md, x9.2.2.2, x9.2.2.1, x9.1.2, x9.2.1.2, x9.1.1, x9.2.1.1) (zI 0) ⟨⟨hT9, hnm, hs9, hD9, hH9, hol, hct, hk9, hq2, hsi, hfl, hwi⟩, hs, hv, hx, hh⟩ ⟨rfl, 0, rfl⟩ rfl rfl

