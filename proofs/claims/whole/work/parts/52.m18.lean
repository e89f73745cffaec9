/-! calls that read -/
theorem gT_lt {t : zRw} {i : Int} (h : ¬ gT t i = -1) : 0 ≤ i ∧ i < t.1 := by
  unfold gT at h
  split at h
  · assumption
  · exact absurd rfl h
theorem nat9_lt {c : Int} (h : ¬ nat9 c = 100) : ¬ c = -1 := by
  intro h2
  subst h2
  exact h (by decide)
theorem ntR_le {t : zRw} {p : Int} (h : ¬ (ntR (gT t) p).1 = 100) : (ntR (gT t) p).2 ≤ t.1 := by
  have h0 : ¬ nat9 (gT t p) = 100 := fun h2 => h ((ntR_100 _ _).mpr h2)
  have h1 := gT_lt (nat9_lt h0)
  by_cases c1 : gT t (p + 1) = 35
  · have h2 := gT_lt (t := t) (i := p + 1) (by omega)
    rw [ntR_1 h0 c1]; show p + 1 + 1 ≤ t.1; omega
  · by_cases c2 : gT t (p + 1) = 98
    · have h2 := gT_lt (t := t) (i := p + 1) (by omega)
      rw [ntR_2 h0 c1 c2]; show p + 1 + 1 ≤ t.1; omega
    · rw [ntR_3 h0 c1 c2]; show p + 1 ≤ t.1; omega
theorem shR_le {t : zRw} {p : Int} : ∀ (l : List Int) (k : Int), (∀ c ∈ l, ¬ c = -1) → p + k ≤ t.1 → p + shR (gT t) p l k ≤ t.1
  | [], k, _, h => h
  | c :: l, k, hl, h => by
    rw [shR]
    split
    · rename_i h2
      have h3 := gT_lt (t := t) (i := p + k) (by rw [h2]; exact hl c List.mem_cons_self)
      exact shR_le l (k + 1) (fun c hc => hl c (List.mem_cons_of_mem _ hc)) (by omega)
    · exact h
theorem zby_m1 : ∀ q : Nat, q < 10 → ∀ c ∈ zBytes.getD q [], ¬ c = -1 := by decide +kernel
theorem quR_le {t : zRw} {p : Int} (hp : p ≤ t.1) : ∀ (m : Nat) (i lo fo qu : Int), 0 ≤ i → i + m = 10 → p + lo ≤ t.1 → p + (quR (gT t) p m i lo fo qu).1 ≤ t.1
  | 0, i, lo, fo, qu, _, _, h => h
  | m + 1, i, lo, fo, qu, h0, h1, h => by
    have h2 := shR_le (t := t) (p := p) (zBytes.getD i.toNat []) 0 (zby_m1 i.toNat (by omega)) (by omega)
    rw [quR]
    exact ite_P (P := fun x : Int × Int × Int => p + x.1 ≤ t.1) (ite_P (P := fun x : Int × Int × Int => p + x.1 ≤ t.1) (quR_le hp m _ _ _ _ (by omega) (by omega) h2) (quR_le hp m _ _ _ _ (by omega) (by omega) h2)) (ite_P (P := fun x : Int × Int × Int => p + x.1 ≤ t.1) (quR_le hp m _ _ _ _ (by omega) (by omega) h) (quR_le hp m _ _ _ _ (by omega) (by omega) h))
theorem chR_le {t : zRw} {p qu : Int} (hw : (chR (gT t) p qu).2.2.2.2 = 1) : (chR (gT t) p qu).1 ≤ t.1 := by
  unfold chR at hw ⊢
  by_cases c1 : (ntR (gT t) p).1 = 100
  · rw [if_pos c1] at hw; exact absurd hw (show ¬ (0 : Int) = 1 by decide)
  rw [if_neg c1] at hw ⊢
  have h1 := ntR_le c1
  have h2 : (ntR (gT t) p).2 + (quF (gT t) (ntR (gT t) p).2 qu).1 ≤ t.1 := quR_le h1 10 0 (-1) 0 qu (by omega) (by omega) (by omega)
  by_cases c2 : (quF (gT t) (ntR (gT t) p).2 qu).2.1 = 0
  · rw [if_pos c2] at hw; exact absurd hw (show ¬ (0 : Int) = 1 by decide)
  rw [if_neg c2] at hw ⊢
  by_cases c3 : gT t ((ntR (gT t) p).2 + (quF (gT t) (ntR (gT t) p).2 qu).1) = 47
  · rw [if_pos c3] at hw ⊢
    have hw2 : (if (ntR (gT t) ((ntR (gT t) p).2 + (quF (gT t) (ntR (gT t) p).2 qu).1 + 1)).1 = 100 then (0 : Int) else 1) = 1 := hw
    by_cases c4 : (ntR (gT t) ((ntR (gT t) p).2 + (quF (gT t) (ntR (gT t) p).2 qu).1 + 1)).1 = 100
    · rw [if_pos c4] at hw2; exact absurd hw2 (by decide)
    · exact ntR_le c4
  · rw [if_neg c3]
    exact h2
/-- a single chord: both sides agree on what is wrong -/
theorem one_ch {t : zRw} (ht : okT t) {qu : Int} (hq : 0 ≤ qu ∧ qu < 10) (rr rq rb wh : Int) : (((mcR (gT t) (-1) 0 rr rq rb wh).1 = 0 ∧ (if (chR (gT t) 0 qu).2.2.2.2 = 1 ∧ (chR (gT t) 0 qu).1 = t.1 then -1 else (chR (gT t) 0 qu).1) = (mcR (gT t) (-1) 0 rr rq rb wh).2.1 ∧ ¬ (if (chR (gT t) 0 qu).2.2.2.2 = 1 ∧ (chR (gT t) 0 qu).1 = t.1 then -1 else (chR (gT t) 0 qu).1) = -1) ∨ (¬ (mcR (gT t) (-1) 0 rr rq rb wh).1 = 0 ∧ (if (chR (gT t) 0 qu).2.2.2.2 = 1 ∧ (chR (gT t) 0 qu).1 = t.1 then -1 else (chR (gT t) 0 qu).1) = -1 ∧ (chR (gT t) 0 qu).2.2.2.2 = 1 ∧ (mcR (gT t) (-1) 0 rr rq rb wh).2.2.2.1 = (chR (gT t) 0 qu).2.1 ∧ (mcR (gT t) (-1) 0 rr rq rb wh).2.2.2.2.1 = (chR (gT t) 0 qu).2.2.1 ∧ (mcR (gT t) (-1) 0 rr rq rb wh).2.2.2.2.2.1 = (chR (gT t) 0 qu).2.2.2.1)) := by
  obtain ⟨m1, m2, m3⟩ := mc_ch (gT t) (-1) 0 qu rr rq rb wh hq
  have m0 := mcR_01 (gT t) (-1) 0 rr rq rb wh
  have cb := chR_b (gT t) 0 qu hq
  by_cases hM : (mcR (gT t) (-1) 0 rr rq rb wh).1 = 1
  · right
    have h1 := m2.mp hM
    have h2 := chR_le h1.1
    have h3 : (chR (gT t) 0 qu).1 = t.1 := by
      by_cases h4 : (chR (gT t) 0 qu).1 < t.1
      · have h5 := gT_p ht (chR (gT t) 0 qu).1 (by omega) h4
        omega
      · omega
    exact ⟨by omega, if_pos ⟨h1.1, h3⟩, h1.1, m3 hM⟩
  · left
    have h1 : ¬ ((chR (gT t) 0 qu).2.2.2.2 = 1 ∧ (chR (gT t) 0 qu).1 = t.1) := by
      rintro ⟨h2, h3⟩
      refine hM (m2.mpr ⟨h2, ?_⟩)
      rw [h3]
      unfold gT
      rw [if_neg (by omega)]
    rw [if_neg h1]
    exact ⟨by omega, m1.symm, by omega⟩
theorem rdS_P {t : zRw} (ht : okT t) : ∀ (m : Nat) (i : Int) (s : zSh) (k : zKd), (0 ≤ i ∧ i ≤ 400) → okD i s → okW (sK s 0 0) → (0 ≤ k.2.2.1 ∧ k.2.2.1 < 10) → t.1 - i < m → (-1 ≤ (rdS (gT t) t.1 m i s k).1 ∧ (rdS (gT t) t.1 m i s k).1 ≤ 1000) ∧ okW (sK (rdS (gT t) t.1 m i s k).2.1 0 0) ∧ (rdS (gT t) t.1 m i s k).2.1.2.2.2.2.2 = s.2.2.2.2.2 ∧ (0 ≤ (rdS (gT t) t.1 m i s k).2.2.2.2.1 ∧ (rdS (gT t) t.1 m i s k).2.2.2.2.1 < 10)
  | 0, i, s, k, hi, hd, hw, hq, hm => ⟨⟨show (-1 : Int) ≤ -1 by omega, show (-1 : Int) ≤ 1000 by omega⟩, hw, rfl, hq⟩
  | m + 1, i, s, k, hi, hd, hw, hq, hm => by
    have cb := chR_b (gT t) (i + 1) k.2.2.1 hq
    have a3 := hd.2.2.2.1
    have t2 := ht.2.1
    rw [rdS]
    by_cases c1 : t.1 ≤ i
    · rw [if_pos c1]; exact ⟨⟨show (-1 : Int) ≤ -1 by omega, show (-1 : Int) ≤ 1000 by omega⟩, hw, rfl, hq⟩
    rw [if_neg c1]
    by_cases c2 : gT t i = 93
    · rw [if_pos c2]; exact ⟨⟨show (-1 : Int) ≤ i by omega, show i ≤ 1000 by omega⟩, hw, rfl, hq⟩
    rw [if_neg c2]
    by_cases c3 : gT t i = 91
    · rw [if_pos c3]
      by_cases c4 : 40 ≤ s.2.2.2.2.1
      · rw [if_pos c4]; exact ⟨⟨show (-1 : Int) ≤ i by omega, show i ≤ 1000 by omega⟩, hw, rfl, hq⟩
      rw [if_neg c4]
      by_cases c5 : (chR (gT t) (i + 1) k.2.2.1).2.2.2.2 = 0
      · rw [if_pos c5]; exact ⟨⟨show (-1 : Int) ≤ (chR (gT t) (i + 1) k.2.2.1).1 by omega, show (chR (gT t) (i + 1) k.2.2.1).1 ≤ 1000 by omega⟩, hw, rfl, cb.2.2.1⟩
      rw [if_neg c5]
      by_cases c6 : gT t (chR (gT t) (i + 1) k.2.2.1).1 = 93
      · rw [if_pos c6]
        have h117 := chR_n (gT t) (i + 1) k.2.2.1 hq (by omega)
        exact rdS_P ht m _ _ _ (by omega) (okD_le (okD_app hd (by omega) (by omega) _ _ _ (by omega) (by omega) (by omega)) (by omega)) (okW_app hw (by omega) (by omega) (by omega) (by omega)) (by omega) (by omega)
      · rw [if_neg c6]; exact ⟨⟨show (-1 : Int) ≤ (chR (gT t) (i + 1) k.2.2.1).1 by omega, show (chR (gT t) (i + 1) k.2.2.1).1 ≤ 1000 by omega⟩, hw, rfl, cb.2.2.1⟩
    rw [if_neg c3]
    have hg := gT_p ht i hi.1 (by omega)
    have hg2 := gT_b ht i
    by_cases c4 : gT t i = 47
    · rw [if_pos c4]
      exact rdS_P ht m _ _ _ (by omega) (okD_line hd (by omega)) (okW_line hw hd (by omega)) hq (by omega)
    · rw [if_neg c4]
      exact rdS_P ht m _ _ _ (by omega) (okD_add hd (by omega) _ (by omega)) (okW_add hw hd (by omega) _ (by omega)) hq (by omega)
theorem rdS_P0 {t : zRw} (ht : okT t) {D : zSh} (hD : okD 200 D) {k : zKd} (hq : 0 ≤ k.2.2.1 ∧ k.2.2.1 < 10) : (-1 ≤ (rdS (gT t) t.1 (t.1.toNat + 1) 0 (shClr D) k).1 ∧ (rdS (gT t) t.1 (t.1.toNat + 1) 0 (shClr D) k).1 ≤ 1000) ∧ okW (sK (rdS (gT t) t.1 (t.1.toNat + 1) 0 (shClr D) k).2.1 0 0) ∧ (rdS (gT t) t.1 (t.1.toNat + 1) 0 (shClr D) k).2.1.2.2.2.2.2 = D.2.2.2.2.2 ∧ (0 ≤ (rdS (gT t) t.1 (t.1.toNat + 1) 0 (shClr D) k).2.2.2.2.1 ∧ (rdS (gT t) t.1 (t.1.toNat + 1) 0 (shClr D) k).2.2.2.2.1 < 10) :=
  rdS_P ht _ 0 (shClr D) k (by omega) (okD_clr hD) (okW_clr hD) hq (by have := ht.1; omega)
theorem rdS_P1 {t : zRw} (ht : okT t) {D : zSh} (hD : okD 200 D ∧ okS D) {k : zKd} (hq : 0 ≤ k.2.2.1 ∧ k.2.2.1 < 10) : (-1 ≤ (rdS (gT t) t.1 (t.1.toNat + 1) 0 (shClr D) k).1 ∧ (rdS (gT t) t.1 (t.1.toNat + 1) 0 (shClr D) k).1 ≤ 1000) ∧ okD 200 (rdS (gT t) t.1 (t.1.toNat + 1) 0 (shClr D) k).2.1 ∧ okN (rdS (gT t) t.1 (t.1.toNat + 1) 0 (shClr D) k).2.1 ∧ okS (rdS (gT t) t.1 (t.1.toNat + 1) 0 (shClr D) k).2.1 := by
  obtain ⟨h1, h2, h3, h4⟩ := rdS_P0 ht hD.1 hq
  have h5 : okD 200 (rdS (gT t) t.1 (t.1.toNat + 1) 0 (shClr D) k).2.1 := h2.1.1
  exact ⟨h1, h5, h2.1.2.1, by rw [h3]; exact hD.2.1, h5.2.2.2.2.2⟩
set_option maxHeartbeats 1000000 in
theorem r_setChord (t nm : zRw) (s D : zSh) (H : Nat → zSh) (ol ct : Int) (k : zKd) (y : zLy) (si fl wi : Int) (v pa tx : Int → Int) (th ap nt rr rq rb wh : Int) (md na : Int → Int) (nd : Int) (up lo : Int → Int) (us lw : Int) (h : RelM (t, nm, s, D, H, ol, ct, k, y, si, fl, wi) v pa tx) (i : Int) (hi : zin i) : zMetW q_X10_setChord 4 0 0 [zR 0, zI i] (wM v pa ct tx t.1 si fl wi th ap nt rr rq rb wh md na nd up lo us lw) (Gl cd1 (cs_setChord i (t, nm, s, D, H, ol, ct, k, y, si, fl, wi))) := by
  obtain ⟨⟨hT9, hnm, hs9, hD9, hH9, hol, hct, hk9, hq9, hsi, hfl, hwi⟩, hs, hv, hx, hh⟩ := id h
  have hO := one_ch hT9 hk9 rr rq rb wh
  have cb := chR_b (gT t) 0 k.2.2.1 hk9
  by_cases hC : 0 ≤ i ∧ i < s.2.2.2.2.1
  · rcases hO with ⟨o1, o2, o3⟩ | ⟨o1, o2, o3, o4, o5, o6⟩
    · 
      refine ⟨_, k_X10_setChord1 s t v pa ct tx t.1 si fl wi th ap nt rr rq rb wh md na nd up lo us lw i hs hv hT9 hx hC o1, ?_⟩
      rintro o w' ⟨rfl, rfl⟩
      exact Gl_i (p := .inl (some (zI (-1 - (mcR (gT t) (-1) 0 rr rq rb wh).2.1)))) (c := (t, nm, s, D, H, ol, ct, (chR (gT t) 0 k.2.2.1), y, si, fl, wi)) (by rw [cs_setChord, if_neg (by omega), if_pos o3, o2]) (v, pa, tx, 0, (mcR (gT t) (-1) 0 rr rq rb wh).2.1, (mcR (gT t) (-1) 0 rr rq rb wh).2.2.1, (mcR (gT t) (-1) 0 rr rq rb wh).2.2.2.1, (mcR (gT t) (-1) 0 rr rq rb wh).2.2.2.2.1, (mcR (gT t) (-1) 0 rr rq rb wh).2.2.2.2.2.1, (mcR (gT t) (-1) 0 rr rq rb wh).2.2.2.2.2.2, md, na, nd, up, lo, us, lw) (zI (-1 - (mcR (gT t) (-1) 0 rr rq rb wh).2.1)) ⟨⟨hT9, hnm, hs9, hD9, hH9, hol, hct, cb.2.2.1, hq9, hsi, hfl, hwi⟩, hs, hv, hx, hh⟩ ⟨rfl, rfl⟩ rfl rfl
    · have hn := chR_n (gT t) 0 k.2.2.1 hk9 o3
      have w1 := okW_up hs (i := i) (f := 2) (x := (chR (gT t) 0 k.2.2.1).2.1) hC (Or.inl ⟨rfl, by omega, by omega⟩)
      have w2 := okW_up w1 (i := i) (f := 3) (x := (chR (gT t) 0 k.2.2.1).2.2.1) hC (Or.inr (Or.inl ⟨rfl, by omega, by omega⟩))
      have w3 := okW_up w2 (i := i) (f := 4) (x := (chR (gT t) 0 k.2.2.1).2.2.2.1) hC (Or.inr (Or.inr ⟨rfl, by omega⟩))
      have z4 := hs.1.1.2.2.2.1
      have z1 := hs.1.1.1
      have u1 := Vr_up hv (i := i) (f := 2) hC z4.2 (by omega) ((chR (gT t) 0 k.2.2.1).2.1) (by omega)
      have u2 := Vr_up u1 (i := i) (f := 3) hC z4.2 (by omega) ((chR (gT t) 0 k.2.2.1).2.2.1) (by show s.2.2.2.1 ≤ 201; omega)
      have u3 := Vr_up u2 (i := i) (f := 4) hC z4.2 (by omega) ((chR (gT t) 0 k.2.2.1).2.2.2.1) (by show s.2.2.2.1 ≤ 201; omega)
      rw [← o4, ← o5, ← o6] at u3
      refine ⟨_, k_X10_setChord2 s t v pa ct tx t.1 si fl wi th ap nt rr rq rb wh md na nd up lo us lw i hs hv hT9 hx hct hC o1, ?_⟩
      rintro o w' ⟨rfl, rfl⟩
      exact Gl_i (p := .inl (some (zI (0)))) (c := (rC t 0, nm, (s.1, s.2.1, putF s.2.2.1 i (chR (gT t) 0 k.2.2.1).2.1 (chR (gT t) 0 k.2.2.1).2.2.1 (chR (gT t) 0 k.2.2.1).2.2.2.1, s.2.2.2.1, s.2.2.2.2.1, s.2.2.2.2.2.1, s.2.2.2.2.2.2), D, hup H ((ol + ct) % 8).toNat s, (if ct < 8 then ol else (ol + 1) % 8), (if ct < 8 then ct + 1 else ct), (chR (gT t) 0 k.2.2.1), y, si, fl, wi)) (by rw [cs_setChord, if_neg (by omega), if_neg (fun h => h o2)]) (zup (zup (zup (v) (210 + 5 * i + 2) (mcR (gT t) (-1) 0 rr rq rb wh).2.2.2.1) (210 + 5 * i + 3) (mcR (gT t) (-1) 0 rr rq rb wh).2.2.2.2.1) (210 + 5 * i + 4) (mcR (gT t) (-1) 0 rr rq rb wh).2.2.2.2.2.1, actP v ct pa, tx, 0, (mcR (gT t) (-1) 0 rr rq rb wh).2.1, (mcR (gT t) (-1) 0 rr rq rb wh).2.2.1, (mcR (gT t) (-1) 0 rr rq rb wh).2.2.2.1, (mcR (gT t) (-1) 0 rr rq rb wh).2.2.2.2.1, (mcR (gT t) (-1) 0 rr rq rb wh).2.2.2.2.2.1, (mcR (gT t) (-1) 0 rr rq rb wh).2.2.2.2.2.2, md, na, nd, up, lo, us, lw) (zI 0) ⟨⟨(okT_C hT9), hnm, w3.1, hD9, (okC_H hs.1 hH9 _), (by split <;> omega), (by split <;> omega), cb.2.2.1, hq9, hsi, hfl, hwi⟩, w3, (by rw [o4, o5, o6] at u3 ⊢; exact u3), (Tr_C hT9 tx), (Hs_keep hol hct hs hv hh)⟩ ⟨rfl, rfl⟩ rfl (by show _ = wM _ _ (if ct < 8 then ct + 1 else ct) _ (rC t 0).1 _ _ _ _ _ _ _ _ _ _ _ _ _ _ _ _ _; rw [rC_0 hT9.1, show (if ct < 8 then ct + 1 else ct) = (if ct = 8 then 8 else ct + 1) by split <;> (split <;> omega)])
  · 
    refine ⟨_, k_X10_setChord0 s t v pa ct tx t.1 si fl wi th ap nt rr rq rb wh md na nd up lo us lw i hs hv hT9 hx hi hC, ?_⟩
    rintro o w' ⟨rfl, rfl⟩
    exact Gl_i (p := .inr eIO) (c := (t, nm, s, D, H, ol, ct, k, y, si, fl, wi)) (by rw [cs_setChord, if_pos hC]) (v, pa, tx, 1, ap, nt, rr, rq, rb, wh, md, na, nd, up, lo, us, lw) (zI 0) h ⟨rfl, 0, rfl⟩ rfl rfl

set_option maxHeartbeats 1000000 in
theorem r_addChord (t nm : zRw) (s D : zSh) (H : Nat → zSh) (ol ct : Int) (k : zKd) (y : zLy) (si fl wi : Int) (v pa tx : Int → Int) (th ap nt rr rq rb wh : Int) (md na : Int → Int) (nd : Int) (up lo : Int → Int) (us lw : Int) (h : RelM (t, nm, s, D, H, ol, ct, k, y, si, fl, wi) v pa tx) (l : Int) (hl : zin l) (c : Int) (hc : zin c) : zMetW q_X10_addChord 4 0 0 [zR 0, zI l, zI c] (wM v pa ct tx t.1 si fl wi th ap nt rr rq rb wh md na nd up lo us lw) (Gl (cd2 eIO) (cs_addChord l c (t, nm, s, D, H, ol, ct, k, y, si, fl, wi))) := by
  obtain ⟨⟨hT9, hnm, hs9, hD9, hH9, hol, hct, hk9, hq9, hsi, hfl, hwi⟩, hs, hv, hx, hh⟩ := id h
  have hO := one_ch hT9 hk9 rr rq rb wh
  have cb := chR_b (gT t) 0 k.2.2.1 hk9
  by_cases hC : (0 ≤ l ∧ l < s.2.2.2.1) ∧ (0 ≤ c ∧ c ≤ s.2.1 (l + 1) - s.2.1 l)
  · by_cases h4 : s.2.2.2.2.1 = 40
    · 
      refine ⟨_, k_X10_addChord1 s t v pa ct tx t.1 si fl wi th ap nt rr rq rb wh md na nd up lo us lw l c hs hv hT9 hx hl hc hC h4, ?_⟩
      rintro o w' ⟨rfl, rfl⟩
      exact Gl_i (p := .inr eIS) (c := (t, nm, s, D, H, ol, ct, k, y, si, fl, wi)) (by rw [cs_addChord, if_neg (by omega), if_neg (by omega), if_pos (by omega)]) (v, pa, tx, 2, ap, nt, rr, rq, rb, wh, md, na, nd, up, lo, us, lw) (zI 0) h ⟨(if_neg (by decide)).symm, 0, rfl⟩ rfl rfl
    · have z4 := hs.1.1.2.2.2.1
      have z1 := hs.1.1.1
      rcases hO with ⟨o1, o2, o3⟩ | ⟨o1, o2, o3, o4, o5, o6⟩
      · 
        refine ⟨_, k_X10_addChord2 s t v pa ct tx t.1 si fl wi th ap nt rr rq rb wh md na nd up lo us lw l c hs hv hT9 hx hl hc hC h4 o1, ?_⟩
        rintro o w' ⟨rfl, rfl⟩
        exact Gl_i (p := .inl (some (zI (-1 - (mcR (gT t) (-1) 0 rr rq rb wh).2.1)))) (c := (t, nm, s, D, H, ol, ct, (chR (gT t) 0 k.2.2.1), y, si, fl, wi)) (by rw [cs_addChord, if_neg (by omega), if_neg (by omega), if_neg (by omega), if_pos o3, o2]) (v, pa, tx, 0, (mcR (gT t) (-1) 0 rr rq rb wh).2.1, (mcR (gT t) (-1) 0 rr rq rb wh).2.2.1, (mcR (gT t) (-1) 0 rr rq rb wh).2.2.2.1, (mcR (gT t) (-1) 0 rr rq rb wh).2.2.2.2.1, (mcR (gT t) (-1) 0 rr rq rb wh).2.2.2.2.2.1, (mcR (gT t) (-1) 0 rr rq rb wh).2.2.2.2.2.2, md, na, nd, up, lo, us, lw) (zI (-1 - (mcR (gT t) (-1) 0 rr rq rb wh).2.1)) ⟨⟨hT9, hnm, hs9, hD9, hH9, hol, hct, cb.2.2.1, hq9, hsi, hfl, hwi⟩, hs, hv, hx, hh⟩ ⟨rfl, rfl⟩ rfl rfl
      · have hn := chR_n (gT t) 0 k.2.2.1 hk9 o3
        have hu := cUT_le s.2.2.1 l c s.2.2.2.2.1.toNat 0
        have w3 := okW_ins hs (l := l) (k := c) (r := (chR (gT t) 0 k.2.2.1).2.1) (q := (chR (gT t) 0 k.2.2.1).2.2.1) (b := (chR (gT t) 0 k.2.2.1).2.2.2.1) (by omega) hC.1 hC.2 (by omega) (by omega) (by omega)
        have u3 := Vr_ins hv (i := (cUT s.2.2.1 l c s.2.2.2.2.1.toNat 0)) (l := l) (k := c) (r := (chR (gT t) 0 k.2.2.1).2.1) (q := (chR (gT t) 0 k.2.2.1).2.2.1) (b := (chR (gT t) 0 k.2.2.1).2.2.2.1) (by omega) (by omega) (by omega)
        refine ⟨_, k_X10_addChord3 s t v pa ct tx t.1 si fl wi th ap nt rr rq rb wh md na nd up lo us lw l c hs hv hT9 hx hct hl hc hC h4 o1, ?_⟩
        rintro o w' ⟨rfl, rfl⟩
        exact Gl_i (p := .inl (some (zI ((cUT s.2.2.1 l c s.2.2.2.2.1.toNat 0))))) (c := (rC t 0, nm, (s.1, s.2.1, insF s.2.2.1 (cUT s.2.2.1 l c s.2.2.2.2.1.toNat 0) s.2.2.2.2.1 l c (chR (gT t) 0 k.2.2.1).2.1 (chR (gT t) 0 k.2.2.1).2.2.1 (chR (gT t) 0 k.2.2.1).2.2.2.1, s.2.2.2.1, s.2.2.2.2.1 + 1, s.2.2.2.2.2.1, s.2.2.2.2.2.2), D, hup H ((ol + ct) % 8).toNat s, (if ct < 8 then ol else (ol + 1) % 8), (if ct < 8 then ct + 1 else ct), (chR (gT t) 0 k.2.2.1), y, si, fl, wi)) (by rw [cs_addChord, if_neg (by omega), if_neg (by omega), if_neg (by omega), if_neg (fun h => h o2)]) (insV v (cUT s.2.2.1 l c s.2.2.2.2.1.toNat 0) s.2.2.2.2.1 l c (mcR (gT t) (-1) 0 rr rq rb wh).2.2.2.1 (mcR (gT t) (-1) 0 rr rq rb wh).2.2.2.2.1 (mcR (gT t) (-1) 0 rr rq rb wh).2.2.2.2.2.1, actP v ct pa, tx, 0, (mcR (gT t) (-1) 0 rr rq rb wh).2.1, (mcR (gT t) (-1) 0 rr rq rb wh).2.2.1, (mcR (gT t) (-1) 0 rr rq rb wh).2.2.2.1, (mcR (gT t) (-1) 0 rr rq rb wh).2.2.2.2.1, (mcR (gT t) (-1) 0 rr rq rb wh).2.2.2.2.2.1, (mcR (gT t) (-1) 0 rr rq rb wh).2.2.2.2.2.2, md, na, nd, up, lo, us, lw) (zI (cUT s.2.2.1 l c s.2.2.2.2.1.toNat 0)) ⟨⟨(okT_C hT9), hnm, w3.1, hD9, (okC_H hs.1 hH9 _), (by split <;> omega), (by split <;> omega), cb.2.2.1, hq9, hsi, hfl, hwi⟩, w3, (by rw [o4, o5, o6]; exact u3), (Tr_C hT9 tx), (Hs_keep hol hct hs hv hh)⟩ ⟨rfl, rfl⟩ rfl (by show _ = wM _ _ (if ct < 8 then ct + 1 else ct) _ (rC t 0).1 _ _ _ _ _ _ _ _ _ _ _ _ _ _ _ _ _; rw [rC_0 hT9.1, show (if ct < 8 then ct + 1 else ct) = (if ct = 8 then 8 else ct + 1) by split <;> (split <;> omega)])
  · 
    refine ⟨_, k_X10_addChord0 s t v pa ct tx t.1 si fl wi th ap nt rr rq rb wh md na nd up lo us lw l c hs hv hT9 hx hl hc hC, ?_⟩
    rintro o w' ⟨rfl, rfl⟩
    exact Gl_i (p := .inr eIO) (c := (t, nm, s, D, H, ol, ct, k, y, si, fl, wi)) (by rw [cs_addChord]; rcases Decidable.em (0 ≤ l ∧ l < s.2.2.2.1) with h0 | h0 <;> first | rw [if_neg (by omega), if_pos (by omega)] | rw [if_pos h0]) (v, pa, tx, 1, ap, nt, rr, rq, rb, wh, md, na, nd, up, lo, us, lw) (zI 0) h ⟨(if_pos rfl).symm, 0, rfl⟩ rfl rfl

set_option maxHeartbeats 1000000 in
theorem r_read (t nm : zRw) (s D : zSh) (H : Nat → zSh) (ol ct : Int) (k : zKd) (y : zLy) (si fl wi : Int) (v pa tx : Int → Int) (th ap nt rr rq rb wh : Int) (md na : Int → Int) (nd : Int) (up lo : Int → Int) (us lw : Int) (h : RelM (t, nm, s, D, H, ol, ct, k, y, si, fl, wi) v pa tx)  : zMetW q_X10_read 6 0 0 [zR 0] (wM v pa ct tx t.1 si fl wi th ap nt rr rq rb wh md na nd up lo us lw) (Gl cd1 (cs_read (t, nm, s, D, H, ol, ct, k, y, si, fl, wi))) := by
  obtain ⟨⟨hT9, hnm, hs9, hD9, hH9, hol, hct, hk9, hq9, hsi, hfl, hwi⟩, hs, hv, hx, hh⟩ := id h
  obtain ⟨p1, p2, p3, p4⟩ := rdS_P0 hT9 hD9.1 hk9
  have hD2 := rdS_P1 hT9 hD9 hk9
  by_cases hC : (rdS (gT t) t.1 (t.1.toNat + 1) 0 (shClr D) k).1 = -1
  · 
    refine ⟨_, k_X10_read1 t v pa ct tx t.1 si fl wi th ap nt rr rq rb wh md na nd up lo us lw hT9 hx D k hD9.1 hk9 hct hC p2, ?_⟩
    rintro o w' ⟨x9, hx9, rfl, rfl⟩
    exact Gl_i (p := .inl (some (zI ((rdS (gT t) t.1 (t.1.toNat + 1) 0 (shClr D) k).2.1.2.2.2.2.1)))) (c := (rC t 0, nm, tkS (beF (rdS (gT t) t.1 (t.1.toNat + 1) 0 (shClr D) k).2.1.2.2.1 (rdS (gT t) t.1 (t.1.toNat + 1) 0 (shClr D) k).2.1.2.2.2.2.1) (rdS (gT t) t.1 (t.1.toNat + 1) 0 (shClr D) k).2.1, (rdS (gT t) t.1 (t.1.toNat + 1) 0 (shClr D) k).2.1, hup H ((ol + ct) % 8).toNat s, (if ct < 8 then ol else (ol + 1) % 8), (if ct < 8 then ct + 1 else ct), (rdS (gT t) t.1 (t.1.toNat + 1) 0 (shClr D) k).2.2, y, si, fl, wi)) (by rw [cs_read, if_neg (fun h => h hC)]) (x9.1, actP v ct pa, tx, 0, x9.2.2.1, x9.2.2.2.1, x9.2.2.2.2.1, x9.2.2.2.2.2.1, x9.2.2.2.2.2.2.1, x9.2.2.2.2.2.2.2, x9.2.1, na, nd, up, lo, us, lw) (zI ((rdS (gT t) t.1 (t.1.toNat + 1) 0 (shClr D) k).2.1.2.2.2.2.1)) ⟨⟨(okT_C hT9), hnm, hx9.2.1, ⟨hD2.2.1, hD2.2.2.2⟩, (okC_H hs.1 hH9 _), (by split <;> omega), (by split <;> omega), p4, hq9, hsi, hfl, hwi⟩, hx9.2, hx9.1, (Tr_C hT9 tx), (Hs_keep hol hct hs hv hh)⟩ ⟨rfl, rfl⟩ rfl (by show _ = wM _ _ (if ct < 8 then ct + 1 else ct) _ (rC t 0).1 _ _ _ _ _ _ _ _ _ _ _ _ _ _ _ _ _; rw [rC_0 hT9.1, show (if ct < 8 then ct + 1 else ct) = (if ct = 8 then 8 else ct + 1) by split <;> (split <;> omega)])
  · 
    refine ⟨_, k_X10_read0 t v pa ct tx t.1 si fl wi th ap nt rr rq rb wh md na nd up lo us lw hT9 hx D k hD9.1 hk9 hC, ?_⟩
    rintro o w' ⟨x9, hx9, rfl, rfl⟩
    exact Gl_i (p := .inl (some (zI (-1 - (rdS (gT t) t.1 (t.1.toNat + 1) 0 (shClr D) k).1)))) (c := (t, nm, s, (rdS (gT t) t.1 (t.1.toNat + 1) 0 (shClr D) k).2.1, H, ol, ct, (rdS (gT t) t.1 (t.1.toNat + 1) 0 (shClr D) k).2.2, y, si, fl, wi)) (by rw [cs_read, if_pos hC]) (v, pa, tx, 0, x9.2.1, x9.2.2.1, x9.2.2.2.1, x9.2.2.2.2.1, x9.2.2.2.2.2.1, x9.2.2.2.2.2.2, x9.1, na, nd, up, lo, us, lw) (zI (-1 - (rdS (gT t) t.1 (t.1.toNat + 1) 0 (shClr D) k).1)) ⟨⟨hT9, hnm, hs9, ⟨hD2.2.1, hD2.2.2.2⟩, hH9, hol, hct, p4, hq9, hsi, hfl, hwi⟩, hs, hv, hx, hh⟩ ⟨rfl, rfl⟩ rfl rfl

