/-! calls that change the state -/
theorem okT_A {t : zRw} (h : okT t) {c : Int} (h2 : t.1 < 200) (hc : 32 ≤ c ∧ c ≤ 126) : okT (rA t c) := by
  refine ⟨by show 0 ≤ t.1 + 1; have := h.1; omega, by show t.1 + 1 ≤ 200; omega, ?_⟩
  intro j j0 j1
  have j1 : j < t.1 + 1 := j1
  show 32 ≤ zup t.2 t.1 c j ∧ zup t.2 t.1 c j ≤ 126
  by_cases hj : j = t.1
  · rw [hj, zup9_eq]; exact hc
  · rw [zup9_ne hj]; exact h.2.2 j j0 (by omega)
theorem Tr_A {t : zRw} {tx : Int → Int} (h : Tr t tx t.1) (c : Int) : Tr (rA t c) (zup tx t.1 c) (rA t c).1 := by
  refine ⟨rfl, ?_⟩
  intro j j0 j1
  have j1 : j < t.1 + 1 := j1
  show zup tx t.1 c j = zup t.2 t.1 c j
  by_cases hj : j = t.1
  · rw [hj, zup9_eq, zup9_eq]
  · rw [zup9_ne hj, zup9_ne hj]; exact h.2 j j0 (by omega)
theorem okT_C {t : zRw} (h : okT t) : okT (rC t 0) := by
  have e := rC_0 h.1
  refine ⟨by omega, by omega, ?_⟩
  intro j j0 j1
  omega
theorem Tr_C {t : zRw} (h : okT t) (tx : Int → Int) : Tr (rC t 0) tx (rC t 0).1 := by
  have e := rC_0 h.1
  refine ⟨rfl, ?_⟩
  intro j j0 j1
  omega
theorem rC_pair {t : zRw} (h : 0 ≤ t.1) : rC t 0 = ((0 : Int), t.2) := by
  have e := rC_0 h
  exact (show rC t 0 = ((rC t 0).1, t.2) from rfl).trans (by rw [e])
set_option maxHeartbeats 1000000 in
theorem r_type (t nm : zRw) (s D : zSh) (H : Nat → zSh) (ol ct : Int) (k : zKd) (y : zLy) (si fl wi : Int) (v pa tx : Int → Int) (th ap nt rr rq rb wh : Int) (md na : Int → Int) (nd : Int) (up lo : Int → Int) (us lw : Int) (h : RelM (t, nm, s, D, H, ol, ct, k, y, si, fl, wi) v pa tx) (c : Int) (hc : zin c) : zMetW q_X10_type 1 0 0 [zR 0, zI c] (wM v pa ct tx t.1 si fl wi th ap nt rr rq rb wh md na nd up lo us lw) (Gl (cd2 eIA) (cs_type c (t, nm, s, D, H, ol, ct, k, y, si, fl, wi))) := by
  obtain ⟨⟨hT9, hnm, hs9, hD9, hH9, hol, hct, hk9, hq9, hsi, hfl, hwi⟩, hs, hv, hx, hh⟩ := id h
  have M9 := k_X10_type v pa ct tx t.1 si fl wi th ap nt rr rq rb wh md na nd up lo us lw c hc ⟨hT9.1, hT9.2.1⟩
  by_cases h1 : 32 ≤ c ∧ c ≤ 126
  · rw [if_pos h1, if_pos h1, if_pos h1, if_pos h1] at M9
    by_cases h2 : t.1 = 200
    · rw [if_pos h2, if_pos h2, if_pos h2, if_pos h2] at M9
      refine ⟨_, M9, ?_⟩
      rintro o w' ⟨rfl, rfl⟩
      exact Gl_i (p := .inr eIS) (c := (t, nm, s, D, H, ol, ct, k, y, si, fl, wi)) (by rw [cs_type] <;> ((repeat (first | rw [if_pos (by omega)] | rw [if_neg (by omega)])) <;> rfl)) (v, pa, tx, 2, ap, nt, rr, rq, rb, wh, md, na, nd, up, lo, us, lw) (zI 0) h ⟨(if_neg (by decide)).symm, 0, rfl⟩ rfl rfl
    · rw [if_neg h2, if_neg h2, if_neg h2, if_neg h2] at M9
      have h3 : t.1 < 200 := by have := hT9.2.1; omega
      refine ⟨_, M9, ?_⟩
      rintro o w' ⟨rfl, rfl⟩
      exact Gl_i (p := .inl (some (zI (t.1 + 1)))) (c := (rA t c, nm, s, D, H, ol, ct, k, y, si, fl, wi)) (by rw [cs_type] <;> ((repeat (first | rw [if_pos (by omega)] | rw [if_neg (by omega)])) <;> rfl)) (v, pa, zup tx t.1 c, 0, ap, nt, rr, rq, rb, wh, md, na, nd, up, lo, us, lw) (zI (t.1 + 1)) ⟨⟨(okT_A hT9 h3 h1), hnm, hs9, hD9, hH9, hol, hct, hk9, hq9, hsi, hfl, hwi⟩, hs, hv, (Tr_A hx c), hh⟩ ⟨rfl, rfl⟩ rfl rfl
  · rw [if_neg h1, if_neg h1, if_neg h1, if_neg h1] at M9
    refine ⟨_, M9, ?_⟩
    rintro o w' ⟨rfl, rfl⟩
    exact Gl_i (p := .inr eIA) (c := (t, nm, s, D, H, ol, ct, k, y, si, fl, wi)) (by rw [cs_type] <;> ((repeat (first | rw [if_pos (by omega)] | rw [if_neg (by omega)])) <;> rfl)) (v, pa, tx, 1, ap, nt, rr, rq, rb, wh, md, na, nd, up, lo, us, lw) (zI 0) h ⟨(if_pos rfl).symm, 0, rfl⟩ rfl rfl

set_option maxHeartbeats 1000000 in
theorem r_clearText (t nm : zRw) (s D : zSh) (H : Nat → zSh) (ol ct : Int) (k : zKd) (y : zLy) (si fl wi : Int) (v pa tx : Int → Int) (th ap nt rr rq rb wh : Int) (md na : Int → Int) (nd : Int) (up lo : Int → Int) (us lw : Int) (h : RelM (t, nm, s, D, H, ol, ct, k, y, si, fl, wi) v pa tx)  : zMetW q_X10_clearText 0 0 0 [zR 0] (wM v pa ct tx t.1 si fl wi th ap nt rr rq rb wh md na nd up lo us lw) (Gl cd1 (cs_clearText (t, nm, s, D, H, ol, ct, k, y, si, fl, wi))) := by
  obtain ⟨⟨hT9, hnm, hs9, hD9, hH9, hol, hct, hk9, hq9, hsi, hfl, hwi⟩, hs, hv, hx, hh⟩ := id h
  refine ⟨_, k_X10_clearText v pa ct tx t.1 si fl wi th ap nt rr rq rb wh md na nd up lo us lw, ?_⟩
  rintro o w' ⟨rfl, rfl⟩
  exact Gl_i (p := .inl (some (zI (t.1)))) (c := (rC t 0, nm, s, D, H, ol, ct, k, y, si, fl, wi)) (by rw [cs_clearText] <;> ((repeat (first | rw [if_pos (by omega)] | rw [if_neg (by omega)])) <;> rfl)) (v, pa, tx, 0, ap, nt, rr, rq, rb, wh, md, na, nd, up, lo, us, lw) (zI t.1) ⟨⟨(okT_C hT9), hnm, hs9, hD9, hH9, hol, hct, hk9, hq9, hsi, hfl, hwi⟩, hs, hv, (Tr_C hT9 tx), hh⟩ ⟨rfl, rfl⟩ rfl (by show _ = (wM v pa ct tx ((rC t 0).1) si fl wi 0 ap nt rr rq rb wh md na nd up lo us lw); rw [rC_0 hT9.1])

set_option maxHeartbeats 1000000 in
theorem r_setSimple (t nm : zRw) (s D : zSh) (H : Nat → zSh) (ol ct : Int) (k : zKd) (y : zLy) (si fl wi : Int) (v pa tx : Int → Int) (th ap nt rr rq rb wh : Int) (md na : Int → Int) (nd : Int) (up lo : Int → Int) (us lw : Int) (h : RelM (t, nm, s, D, H, ol, ct, k, y, si, fl, wi) v pa tx) (b : Int) (hb : b = 0 ∨ b = 1) : zMetW q_X10_setSimple 0 0 0 [zR 0, zI b] (wM v pa ct tx t.1 si fl wi th ap nt rr rq rb wh md na nd up lo us lw) (Gl cd1 (cs_setSimple b (t, nm, s, D, H, ol, ct, k, y, si, fl, wi))) := by
  obtain ⟨⟨hT9, hnm, hs9, hD9, hH9, hol, hct, hk9, hq9, hsi, hfl, hwi⟩, hs, hv, hx, hh⟩ := id h
  refine ⟨_, k_X10_setSimple v pa ct tx t.1 si fl wi th ap nt rr rq rb wh md na nd up lo us lw b hb hsi, ?_⟩
  rintro o w' ⟨rfl, rfl⟩
  exact Gl_i (p := .inl (some (zI (si)))) (c := (t, nm, s, D, H, ol, ct, k, y, b, fl, wi)) (by rw [cs_setSimple] <;> ((repeat (first | rw [if_pos (by omega)] | rw [if_neg (by omega)])) <;> rfl)) (v, pa, tx, 0, ap, nt, rr, rq, rb, wh, md, na, nd, up, lo, us, lw) (zI si) ⟨⟨hT9, hnm, hs9, hD9, hH9, hol, hct, hk9, hq9, hb, hfl, hwi⟩, hs, hv, hx, hh⟩ ⟨rfl, rfl⟩ rfl rfl

set_option maxHeartbeats 1000000 in
theorem r_setFlats (t nm : zRw) (s D : zSh) (H : Nat → zSh) (ol ct : Int) (k : zKd) (y : zLy) (si fl wi : Int) (v pa tx : Int → Int) (th ap nt rr rq rb wh : Int) (md na : Int → Int) (nd : Int) (up lo : Int → Int) (us lw : Int) (h : RelM (t, nm, s, D, H, ol, ct, k, y, si, fl, wi) v pa tx) (b : Int) (hb : b = 0 ∨ b = 1) : zMetW q_X10_setFlats 0 0 0 [zR 0, zI b] (wM v pa ct tx t.1 si fl wi th ap nt rr rq rb wh md na nd up lo us lw) (Gl cd1 (cs_setFlats b (t, nm, s, D, H, ol, ct, k, y, si, fl, wi))) := by
  obtain ⟨⟨hT9, hnm, hs9, hD9, hH9, hol, hct, hk9, hq9, hsi, hfl, hwi⟩, hs, hv, hx, hh⟩ := id h
  refine ⟨_, k_X10_setFlats v pa ct tx t.1 si fl wi th ap nt rr rq rb wh md na nd up lo us lw b hb hfl, ?_⟩
  rintro o w' ⟨rfl, rfl⟩
  exact Gl_i (p := .inl (some (zI (fl)))) (c := (t, nm, s, D, H, ol, ct, k, y, si, b, wi)) (by rw [cs_setFlats] <;> ((repeat (first | rw [if_pos (by omega)] | rw [if_neg (by omega)])) <;> rfl)) (v, pa, tx, 0, ap, nt, rr, rq, rb, wh, md, na, nd, up, lo, us, lw) (zI fl) ⟨⟨hT9, hnm, hs9, hD9, hH9, hol, hct, hk9, hq9, hsi, hb, hwi⟩, hs, hv, hx, hh⟩ ⟨rfl, rfl⟩ rfl rfl

set_option maxHeartbeats 1000000 in
theorem r_setWidth (t nm : zRw) (s D : zSh) (H : Nat → zSh) (ol ct : Int) (k : zKd) (y : zLy) (si fl wi : Int) (v pa tx : Int → Int) (th ap nt rr rq rb wh : Int) (md na : Int → Int) (nd : Int) (up lo : Int → Int) (us lw : Int) (h : RelM (t, nm, s, D, H, ol, ct, k, y, si, fl, wi) v pa tx) (w : Int) (hw : zin w) : zMetW q_X10_setWidth 1 0 0 [zR 0, zI w] (wM v pa ct tx t.1 si fl wi th ap nt rr rq rb wh md na nd up lo us lw) (Gl cd1 (cs_setWidth w (t, nm, s, D, H, ol, ct, k, y, si, fl, wi))) := by
  obtain ⟨⟨hT9, hnm, hs9, hD9, hH9, hol, hct, hk9, hq9, hsi, hfl, hwi⟩, hs, hv, hx, hh⟩ := id h
  have M9 := k_X10_setWidth v pa ct tx t.1 si fl wi th ap nt rr rq rb wh md na nd up lo us lw w hw
  by_cases hC : 10 ≤ w ∧ w ≤ 200
  · rw [if_pos hC, if_pos hC, if_pos hC] at M9
    refine ⟨_, M9, ?_⟩
    rintro o w' ⟨rfl, rfl⟩
    exact Gl_i (p := .inl (some (zI (wi)))) (c := (t, nm, s, D, H, ol, ct, k, y, si, fl, w)) (by rw [cs_setWidth] <;> ((repeat (first | rw [if_pos (by omega)] | rw [if_neg (by omega)])) <;> rfl)) (v, pa, tx, 0, ap, nt, rr, rq, rb, wh, md, na, nd, up, lo, us, lw) (zI wi) ⟨⟨hT9, hnm, hs9, hD9, hH9, hol, hct, hk9, hq9, hsi, hfl, hC⟩, hs, hv, hx, hh⟩ ⟨rfl, rfl⟩ rfl rfl
  · rw [if_neg hC, if_neg hC, if_neg hC] at M9
    refine ⟨_, M9, ?_⟩
    rintro o w' ⟨rfl, rfl⟩
    exact Gl_i (p := .inr eIA) (c := (t, nm, s, D, H, ol, ct, k, y, si, fl, wi)) (by rw [cs_setWidth] <;> ((repeat (first | rw [if_pos (by omega)] | rw [if_neg (by omega)])) <;> rfl)) (v, pa, tx, 1, ap, nt, rr, rq, rb, wh, md, na, nd, up, lo, us, lw) (zI 0) h ⟨rfl, 0, rfl⟩ rfl rfl

set_option maxHeartbeats 1000000 in
theorem r_commonTones (t nm : zRw) (s D : zSh) (H : Nat → zSh) (ol ct : Int) (k : zKd) (y : zLy) (si fl wi : Int) (v pa tx : Int → Int) (th ap nt rr rq rb wh : Int) (md na : Int → Int) (nd : Int) (up lo : Int → Int) (us lw : Int) (h : RelM (t, nm, s, D, H, ol, ct, k, y, si, fl, wi) v pa tx) (i : Int) (hi : zin i) : zMetW q_X10_commonTones 3 0 0 [zR 0, zI i] (wM v pa ct tx t.1 si fl wi th ap nt rr rq rb wh md na nd up lo us lw) (Gl cd1 (cs_commonTones i (t, nm, s, D, H, ol, ct, k, y, si, fl, wi))) := by
  obtain ⟨⟨hT9, hnm, hs9, hD9, hH9, hol, hct, hk9, hq9, hsi, hfl, hwi⟩, hs, hv, hx, hh⟩ := id h
  have M9 := k_X10_commonTones s v pa ct tx t.1 si fl wi th ap nt rr rq rb wh md na nd up lo us lw i hs hv hi
  have zQ1 := fun i h1 h2 => (hs.1.2.1 i h1 h2).2.1
  by_cases hC : 0 ≤ i ∧ i + 1 < s.2.2.2.2.1
  · rw [if_pos hC, if_pos hC, ht_cnt (zQ1 i (by omega) (by omega)) (zQ1 (i + 1) (by omega) (by omega))] at M9
    refine ⟨_, M9, ?_⟩
    rintro o w' ⟨rfl, rfl⟩
    exact Gl_i (p := .inl (some (zI (((zpop (zand (toneF (s.2.2.1 (i * 5 + 2)) (s.2.2.1 (i * 5 + 3)) (s.2.2.1 (i * 5 + 4))) (toneF (s.2.2.1 ((i + 1) * 5 + 2)) (s.2.2.1 ((i + 1) * 5 + 3)) (s.2.2.1 ((i + 1) * 5 + 4)))).toNat : Nat) : Int))))) (c := (t, nm, s, D, H, ol, ct, k, y, si, fl, wi)) (by rw [cs_commonTones] <;> ((repeat (first | rw [if_pos (by omega)] | rw [if_neg (by omega)])) <;> rfl)) (v, pa, tx, 0, ap, nt, rr, rq, rb, wh, md, na, nd, up, lo, us, lw) (zI ((zpop (zand (toneF (s.2.2.1 (i * 5 + 2)) (s.2.2.1 (i * 5 + 3)) (s.2.2.1 (i * 5 + 4))) (toneF (s.2.2.1 ((i + 1) * 5 + 2)) (s.2.2.1 ((i + 1) * 5 + 3)) (s.2.2.1 ((i + 1) * 5 + 4)))).toNat : Nat) : Int)) h ⟨rfl, rfl⟩ rfl rfl
  · rw [if_neg hC, if_neg hC] at M9
    refine ⟨_, M9, ?_⟩
    rintro o w' ⟨rfl, rfl⟩
    exact Gl_i (p := .inr eIO) (c := (t, nm, s, D, H, ol, ct, k, y, si, fl, wi)) (by rw [cs_commonTones] <;> ((repeat (first | rw [if_pos (by omega)] | rw [if_neg (by omega)])) <;> rfl)) (v, pa, tx, 1, ap, nt, rr, rq, rb, wh, md, na, nd, up, lo, us, lw) (zI 0) h ⟨rfl, 0, rfl⟩ rfl rfl

set_option maxHeartbeats 1000000 in
theorem r_nameChar (t nm : zRw) (s D : zSh) (H : Nat → zSh) (ol ct : Int) (k : zKd) (y : zLy) (si fl wi : Int) (v pa tx : Int → Int) (th ap nt rr rq rb wh : Int) (md na : Int → Int) (nd : Int) (up lo : Int → Int) (us lw : Int) (h : RelM (t, nm, s, D, H, ol, ct, k, y, si, fl, wi) v pa tx) (i : Int) (hi : zin i) (c : Int) (hc : zin c) : zMetW q_X10_nameChar 3 0 0 [zR 0, zI i, zI c] (wM v pa ct tx t.1 si fl wi th ap nt rr rq rb wh md na nd up lo us lw) (Gl cd1 (cs_nameChar i c (t, nm, s, D, H, ol, ct, k, y, si, fl, wi))) := by
  obtain ⟨⟨hT9, hnm, hs9, hD9, hH9, hol, hct, hk9, hq9, hsi, hfl, hwi⟩, hs, hv, hx, hh⟩ := id h
  have M9 := k_X10_nameChar s v pa ct tx t.1 si fl wi th ap nt rr rq rb wh md na nd up lo us lw i c hs hv hi hc
  by_cases hC : (0 ≤ i ∧ i < s.2.2.2.2.1) ∧ 0 ≤ c
  · rw [if_pos hC, if_pos hC, if_pos hC, if_pos hC] at M9
    have e0 := rC_pair hnm.1
    have e1 : Req (rL ((0 : Int), nm.2) (nameL (s.2.2.1 (i * 5 + 2)) (s.2.2.1 (i * 5 + 3)) (s.2.2.1 (i * 5 + 4)))) (rL ((0 : Int), na) (nameL (s.2.2.1 (i * 5 + 2)) (s.2.2.1 (i * 5 + 3)) (s.2.2.1 (i * 5 + 4)))) := Req_rL (r := ((0 : Int), nm.2)) (r' := ((0 : Int), na)) ⟨rfl, fun j j0 j1 => absurd j1 (Int.not_lt.mpr j0)⟩ _
    obtain ⟨n1, n2, n3⟩ := hs.1.2.1 i hC.1.1 hC.1.2
    have n4 := nameL_n n1 n2 n3
    have e2 := rL_len ((0 : Int), nm.2) (nameL (s.2.2.1 (i * 5 + 2)) (s.2.2.1 (i * 5 + 3)) (s.2.2.1 (i * 5 + 4)))
    have e3 : (if 0 ≤ c ∧ c < (rL (rC nm 0) (nameL (s.2.2.1 (i * 5 + 2)) (s.2.2.1 (i * 5 + 3)) (s.2.2.1 (i * 5 + 4)))).1 then (rL (rC nm 0) (nameL (s.2.2.1 (i * 5 + 2)) (s.2.2.1 (i * 5 + 3)) (s.2.2.1 (i * 5 + 4)))).2 c else -1) = (if c < (rL ((0 : Int), na) (nameL (s.2.2.1 (i * 5 + 2)) (s.2.2.1 (i * 5 + 3)) (s.2.2.1 (i * 5 + 4)))).1 then (rL ((0 : Int), na) (nameL (s.2.2.1 (i * 5 + 2)) (s.2.2.1 (i * 5 + 3)) (s.2.2.1 (i * 5 + 4)))).2 c else -1) := by
      rw [e0, ← e1.1]
      by_cases q : c < (rL ((0 : Int), nm.2) (nameL (s.2.2.1 (i * 5 + 2)) (s.2.2.1 (i * 5 + 3)) (s.2.2.1 (i * 5 + 4)))).1
      · rw [if_pos ⟨hC.2, q⟩, if_pos q, e1.2 c hC.2 q]
      · rw [if_neg (fun q2 => q q2.2), if_neg q]
    refine ⟨_, M9, ?_⟩
    rintro o w' ⟨rfl, rfl⟩
    exact Gl_i (p := .inl (some (zI (if c < (rL ((0 : Int), na) (nameL (s.2.2.1 (i * 5 + 2)) (s.2.2.1 (i * 5 + 3)) (s.2.2.1 (i * 5 + 4)))).1 then (rL ((0 : Int), na) (nameL (s.2.2.1 (i * 5 + 2)) (s.2.2.1 (i * 5 + 3)) (s.2.2.1 (i * 5 + 4)))).2 c else -1)))) (c := (t, rL (rC nm 0) (nameL (s.2.2.1 (i * 5 + 2)) (s.2.2.1 (i * 5 + 3)) (s.2.2.1 (i * 5 + 4))), s, D, H, ol, ct, k, y, si, fl, wi)) (by rw [cs_nameChar, if_neg (by omega), if_neg (by omega), e3]) (v, pa, tx, 0, ap, nt, rr, rq, rb, wh, md, (rL (0, na) (nameL (s.2.2.1 (i * 5 + 2)) (s.2.2.1 (i * 5 + 3)) (s.2.2.1 (i * 5 + 4)))).2, (rL (0, na) (nameL (s.2.2.1 (i * 5 + 2)) (s.2.2.1 (i * 5 + 3)) (s.2.2.1 (i * 5 + 4)))).1, up, lo, us, lw) (zI (if c < (rL ((0 : Int), na) (nameL (s.2.2.1 (i * 5 + 2)) (s.2.2.1 (i * 5 + 3)) (s.2.2.1 (i * 5 + 4)))).1 then (rL ((0 : Int), na) (nameL (s.2.2.1 (i * 5 + 2)) (s.2.2.1 (i * 5 + 3)) (s.2.2.1 (i * 5 + 4)))).2 c else -1)) ⟨⟨hT9, ⟨by rw [e0]; omega, by rw [e0]; omega⟩, hs9, hD9, hH9, hol, hct, hk9, hq9, hsi, hfl, hwi⟩, hs, hv, hx, hh⟩ ⟨rfl, rfl⟩ rfl rfl
  · rw [if_neg hC, if_neg hC, if_neg hC, if_neg hC] at M9
    refine ⟨_, M9, ?_⟩
    rintro o w' ⟨rfl, rfl⟩
    exact Gl_i (p := .inr eIO) (c := (t, nm, s, D, H, ol, ct, k, y, si, fl, wi)) (by rw [cs_nameChar]; rcases Decidable.em (0 ≤ i ∧ i < s.2.2.2.2.1) with h0 | h0 <;> first | rw [if_neg (by omega), if_pos (by omega)] | rw [if_pos h0]) (v, pa, tx, 1, ap, nt, rr, rq, rb, wh, md, na, nd, up, lo, us, lw) (zI 0) h ⟨rfl, 0, rfl⟩ rfl rfl

set_option maxHeartbeats 1000000 in
theorem r_removeChord (t nm : zRw) (s D : zSh) (H : Nat → zSh) (ol ct : Int) (k : zKd) (y : zLy) (si fl wi : Int) (v pa tx : Int → Int) (th ap nt rr rq rb wh : Int) (md na : Int → Int) (nd : Int) (up lo : Int → Int) (us lw : Int) (h : RelM (t, nm, s, D, H, ol, ct, k, y, si, fl, wi) v pa tx) (i : Int) (hi : zin i) : zMetW q_X10_removeChord 2 0 0 [zR 0, zI i] (wM v pa ct tx t.1 si fl wi th ap nt rr rq rb wh md na nd up lo us lw) (Gl cd1 (cs_removeChord i (t, nm, s, D, H, ol, ct, k, y, si, fl, wi))) := by
  obtain ⟨⟨hT9, hnm, hs9, hD9, hH9, hol, hct, hk9, hq9, hsi, hfl, hwi⟩, hs, hv, hx, hh⟩ := id h
  by_cases hC : 0 ≤ i ∧ i < s.2.2.2.2.1
  · have hw2 := okW_out hs hC
    have hv2 := Vr_out hv hC hs.1.1.2.2.2.1.2 (by have := hs.1.1.1; omega)
    refine ⟨_, k_X10_removeChord1 s v pa ct tx t.1 si fl wi th ap nt rr rq rb wh md na nd up lo us lw i hs hv hct hC, ?_⟩
    rintro o w' ⟨rfl, rfl⟩
    exact Gl_i (p := .inl (some (zI (s.2.2.2.2.1 - 1)))) (c := (t, nm, (s.1, s.2.1, outF s.2.2.1 i s.2.2.2.2.1, s.2.2.2.1, s.2.2.2.2.1 - 1, s.2.2.2.2.2.1, s.2.2.2.2.2.2), D, hup H ((ol + ct) % 8).toNat s, (if ct < 8 then ol else (ol + 1) % 8), (if ct < 8 then ct + 1 else ct), k, y, si, fl, wi)) (by rw [cs_removeChord, if_neg (by omega)]) (cloV v i s.2.2.2.2.1, actP v ct pa, tx, 0, ap, nt, rr, rq, rb, wh, md, na, nd, up, lo, us, lw) (zI (s.2.2.2.2.1 - 1)) ⟨⟨hT9, hnm, hw2.1, hD9, (okC_H hs.1 hH9 _), (by split <;> omega), (by split <;> omega), hk9, hq9, hsi, hfl, hwi⟩, hw2, hv2, hx, (Hs_keep hol hct hs hv hh)⟩ ⟨rfl, rfl⟩ rfl (by show _ = wM _ _ (if ct < 8 then ct + 1 else ct) _ _ _ _ _ _ _ _ _ _ _ _ _ _ _ _ _ _ _; rw [show (if ct < 8 then ct + 1 else ct) = (if ct = 8 then 8 else ct + 1) by split <;> (split <;> omega)])
  · 
    refine ⟨_, k_X10_removeChord0 s v pa ct tx t.1 si fl wi th ap nt rr rq rb wh md na nd up lo us lw i hs hv hi hC, ?_⟩
    rintro o w' ⟨rfl, rfl⟩
    exact Gl_i (p := .inr eIO) (c := (t, nm, s, D, H, ol, ct, k, y, si, fl, wi)) (by rw [cs_removeChord, if_pos hC]) (v, pa, tx, 1, ap, nt, rr, rq, rb, wh, md, na, nd, up, lo, us, lw) (zI 0) h ⟨rfl, 0, rfl⟩ rfl rfl

set_option maxHeartbeats 1000000 in
theorem r_moveChord (t nm : zRw) (s D : zSh) (H : Nat → zSh) (ol ct : Int) (k : zKd) (y : zLy) (si fl wi : Int) (v pa tx : Int → Int) (th ap nt rr rq rb wh : Int) (md na : Int → Int) (nd : Int) (up lo : Int → Int) (us lw : Int) (h : RelM (t, nm, s, D, H, ol, ct, k, y, si, fl, wi) v pa tx) (i : Int) (hi : zin i) (c : Int) (hc : zin c) : zMetW q_X10_moveChord 3 0 0 [zR 0, zI i, zI c] (wM v pa ct tx t.1 si fl wi th ap nt rr rq rb wh md na nd up lo us lw) (Gl cd1 (cs_moveChord i c (t, nm, s, D, H, ol, ct, k, y, si, fl, wi))) := by
  obtain ⟨⟨hT9, hnm, hs9, hD9, hH9, hol, hct, hk9, hq9, hsi, hfl, hwi⟩, hs, hv, hx, hh⟩ := id h
  by_cases hC : (0 ≤ i ∧ i < s.2.2.2.2.1) ∧ (0 ≤ c ∧ c ≤ s.2.1 (s.2.2.1 (i * 5 + 0) + 1) - s.2.1 (s.2.2.1 (i * 5 + 0)))
  · have hw2 := okW_out hs hC.1
    have hv2 := Vr_out hv hC.1 hs.1.1.2.2.2.1.2 (by have := hs.1.1.1; omega)
    have z4 := hs.1.1.2.2.2.1
    have z1 := hs.1.1.1
    have hl9 := hs.1.2.2.2.2 i hC.1.1 hC.1.2
    obtain ⟨n1, n2, n3⟩ := hs.1.2.1 i hC.1.1 hC.1.2
    have hu := cUT_le (outF s.2.2.1 i s.2.2.2.2.1) (s.2.2.1 (i * 5 + 0)) c (s.2.2.2.2.1 - 1).toNat 0
    have hw3 := okW_ins hw2 (l := s.2.2.1 (i * 5 + 0)) (k := c) (r := s.2.2.1 (i * 5 + 2)) (q := s.2.2.1 (i * 5 + 3)) (b := s.2.2.1 (i * 5 + 4)) (by show s.2.2.2.2.1 - 1 < 40; omega) hl9 hC.2 n1 n2 n3
    have hv3 := Vr_ins hv2 (i := (cUT (outF s.2.2.1 i s.2.2.2.2.1) (s.2.2.1 (i * 5 + 0)) c (s.2.2.2.2.1 - 1).toNat 0)) (l := s.2.2.1 (i * 5 + 0)) (k := c) (r := s.2.2.1 (i * 5 + 2)) (q := s.2.2.1 (i * 5 + 3)) (b := s.2.2.1 (i * 5 + 4)) (by show 0 ≤ _ ∧ _ ≤ s.2.2.2.2.1 - 1; omega) (by show s.2.2.2.2.1 - 1 < 40; omega) (by show s.2.2.2.1 ≤ 201; omega)
    refine ⟨_, k_X10_moveChord1 s v pa ct tx t.1 si fl wi th ap nt rr rq rb wh md na nd up lo us lw i c hs hv hct hi hc hC, ?_⟩
    rintro o w' ⟨rfl, rfl⟩
    exact Gl_i (p := .inl (some (zI ((cUT (outF s.2.2.1 i s.2.2.2.2.1) (s.2.2.1 (i * 5 + 0)) c (s.2.2.2.2.1 - 1).toNat 0))))) (c := (t, nm, (s.1, s.2.1, insF (outF s.2.2.1 i s.2.2.2.2.1) (cUT (outF s.2.2.1 i s.2.2.2.2.1) (s.2.2.1 (i * 5 + 0)) c (s.2.2.2.2.1 - 1).toNat 0) (s.2.2.2.2.1 - 1) (s.2.2.1 (i * 5 + 0)) c (s.2.2.1 (i * 5 + 2)) (s.2.2.1 (i * 5 + 3)) (s.2.2.1 (i * 5 + 4)), s.2.2.2.1, s.2.2.2.2.1 - 1 + 1, s.2.2.2.2.2.1, s.2.2.2.2.2.2), D, hup H ((ol + ct) % 8).toNat s, (if ct < 8 then ol else (ol + 1) % 8), (if ct < 8 then ct + 1 else ct), k, y, si, fl, wi)) (by rw [cs_moveChord, if_neg (by omega), if_neg (by omega)]) (insV (cloV v i s.2.2.2.2.1) (cUT (outF s.2.2.1 i s.2.2.2.2.1) (s.2.2.1 (i * 5 + 0)) c (s.2.2.2.2.1 - 1).toNat 0) (s.2.2.2.2.1 - 1) (s.2.2.1 (i * 5 + 0)) c (s.2.2.1 (i * 5 + 2)) (s.2.2.1 (i * 5 + 3)) (s.2.2.1 (i * 5 + 4)), actP v ct pa, tx, 0, ap, nt, rr, rq, rb, wh, md, na, nd, up, lo, us, lw) (zI ((cUT (outF s.2.2.1 i s.2.2.2.2.1) (s.2.2.1 (i * 5 + 0)) c (s.2.2.2.2.1 - 1).toNat 0))) ⟨⟨hT9, hnm, hw3.1, hD9, (okC_H hs.1 hH9 _), (by split <;> omega), (by split <;> omega), hk9, hq9, hsi, hfl, hwi⟩, hw3, hv3, hx, (Hs_keep hol hct hs hv hh)⟩ ⟨rfl, rfl⟩ rfl (by show _ = wM _ _ (if ct < 8 then ct + 1 else ct) _ _ _ _ _ _ _ _ _ _ _ _ _ _ _ _ _ _ _; rw [show (if ct < 8 then ct + 1 else ct) = (if ct = 8 then 8 else ct + 1) by split <;> (split <;> omega)])
  · 
    refine ⟨_, k_X10_moveChord0 s v pa ct tx t.1 si fl wi th ap nt rr rq rb wh md na nd up lo us lw i c hs hv hi hc hC, ?_⟩
    rintro o w' ⟨rfl, rfl⟩
    exact Gl_i (p := .inr eIO) (c := (t, nm, s, D, H, ol, ct, k, y, si, fl, wi)) (by rw [cs_moveChord]; rcases Decidable.em (0 ≤ i ∧ i < s.2.2.2.2.1) with h0 | h0 <;> first | rw [if_neg (by omega), if_pos (by omega)] | rw [if_pos h0]) (v, pa, tx, 1, ap, nt, rr, rq, rb, wh, md, na, nd, up, lo, us, lw) (zI 0) h ⟨rfl, 0, rfl⟩ rfl rfl

set_option maxHeartbeats 1000000 in
theorem r_setKey (t nm : zRw) (s D : zSh) (H : Nat → zSh) (ol ct : Int) (k : zKd) (y : zLy) (si fl wi : Int) (v pa tx : Int → Int) (th ap nt rr rq rb wh : Int) (md na : Int → Int) (nd : Int) (up lo : Int → Int) (us lw : Int) (h : RelM (t, nm, s, D, H, ol, ct, k, y, si, fl, wi) v pa tx) (p : Int) (hp : zin p) (b : Int) (hb : b = 0 ∨ b = 1) : zMetW q_X10_setKey 2 0 0 [zR 0, zI p, zI b] (wM v pa ct tx t.1 si fl wi th ap nt rr rq rb wh md na nd up lo us lw) (Gl cd1 (cs_setKey p b (t, nm, s, D, H, ol, ct, k, y, si, fl, wi))) := by
  obtain ⟨⟨hT9, hnm, hs9, hD9, hH9, hol, hct, hk9, hq9, hsi, hfl, hwi⟩, hs, hv, hx, hh⟩ := id h
  by_cases hC : -6 ≤ p - 3 * b ∧ p - 3 * b ≤ 6
  · have hw2 := okW_key hs (sg := sigO p b) (mn := b) (by unfold sigO; split <;> omega) hb
    have hv2 := Vr_key hv (by have := hs.1.1.1; omega) (sigO p b) b p (by unfold tonO sigO; split <;> omega)
    refine ⟨_, k_X10_setKey1 s v pa ct tx t.1 si fl wi th ap nt rr rq rb wh md na nd up lo us lw p b hs hv hct hb hC, ?_⟩
    rintro o w' ⟨rfl, rfl⟩
    exact Gl_i (p := .inl (some (zI (s.2.2.2.2.2.1)))) (c := (t, nm, (s.1, s.2.1, s.2.2.1, s.2.2.2.1, s.2.2.2.2.1, sigO p b, b), D, hup H ((ol + ct) % 8).toNat s, (if ct < 8 then ol else (ol + 1) % 8), (if ct < 8 then ct + 1 else ct), k, y, si, fl, wi)) (by rw [cs_setKey, if_neg (by omega)]) (zup (zup v 2 p) 3 b, actP v ct pa, tx, 0, ap, nt, rr, rq, rb, wh, md, na, nd, up, lo, us, lw) (zI (s.2.2.2.2.2.1)) ⟨⟨hT9, hnm, hw2.1, hD9, (okC_H hs.1 hH9 _), (by split <;> omega), (by split <;> omega), hk9, hq9, hsi, hfl, hwi⟩, hw2, hv2, hx, (Hs_keep hol hct hs hv hh)⟩ ⟨rfl, rfl⟩ rfl (by show _ = wM _ _ (if ct < 8 then ct + 1 else ct) _ _ _ _ _ _ _ _ _ _ _ _ _ _ _ _ _ _ _; rw [show (if ct < 8 then ct + 1 else ct) = (if ct = 8 then 8 else ct + 1) by split <;> (split <;> omega)])
  · 
    refine ⟨_, k_X10_setKey0 s v pa ct tx t.1 si fl wi th ap nt rr rq rb wh md na nd up lo us lw p b hs hv hp hb hC, ?_⟩
    rintro o w' ⟨rfl, rfl⟩
    exact Gl_i (p := .inr eIA) (c := (t, nm, s, D, H, ol, ct, k, y, si, fl, wi)) (by rw [cs_setKey, if_pos hC]) (v, pa, tx, 1, ap, nt, rr, rq, rb, wh, md, na, nd, up, lo, us, lw) (zI 0) h ⟨rfl, 0, rfl⟩ rfl rfl

set_option maxHeartbeats 1000000 in
theorem r_transpose (t nm : zRw) (s D : zSh) (H : Nat → zSh) (ol ct : Int) (k : zKd) (y : zLy) (si fl wi : Int) (v pa tx : Int → Int) (th ap nt rr rq rb wh : Int) (md na : Int → Int) (nd : Int) (up lo : Int → Int) (us lw : Int) (h : RelM (t, nm, s, D, H, ol, ct, k, y, si, fl, wi) v pa tx) (se : Int) (hse : zin se) : zMetW q_X10_transpose 4 0 0 [zR 0, zI se] (wM v pa ct tx t.1 si fl wi th ap nt rr rq rb wh md na nd up lo us lw) (Gl cd1 (cs_transpose se (t, nm, s, D, H, ol, ct, k, y, si, fl, wi))) := by
  obtain ⟨⟨hT9, hnm, hs9, hD9, hH9, hol, hct, hk9, hq9, hsi, hfl, hwi⟩, hs, hv, hx, hh⟩ := id h
  by_cases hC : -11 ≤ se ∧ se ≤ 11
  · 
    refine ⟨_, k_X10_transpose1 s v pa ct tx t.1 si fl wi th ap nt rr rq rb wh md na nd up lo us lw se hs hv hct hsi hfl hC, ?_⟩
    rintro o w' ⟨x9, hx9, rfl, rfl⟩
    exact Gl_i (p := .inl (some (zI ((smS ((7 * tonO s.2.2.2.2.2.1 s.2.2.2.2.2.2 + se) % 12) s.2.2.2.2.2.2 fl))))) (c := (t, nm, (s.1, s.2.1, (spR se (smS ((7 * tonO s.2.2.2.2.2.1 s.2.2.2.2.2.2 + se) % 12) s.2.2.2.2.2.2 fl) si s.2.2.2.2.1.toNat 0 0 s.2.2.1).2, s.2.2.2.1, s.2.2.2.2.1, smS ((7 * tonO s.2.2.2.2.2.1 s.2.2.2.2.2.2 + se) % 12) s.2.2.2.2.2.2 fl, s.2.2.2.2.2.2), D, hup H ((ol + ct) % 8).toNat s, (if ct < 8 then ol else (ol + 1) % 8), (if ct < 8 then ct + 1 else ct), k, y, si, fl, wi)) (by rw [cs_transpose, if_neg (by omega)]) (x9, actP v ct pa, tx, 0, ap, nt, rr, rq, rb, wh, md, na, nd, up, lo, us, lw) (zI ((smS ((7 * tonO s.2.2.2.2.2.1 s.2.2.2.2.2.2 + se) % 12) s.2.2.2.2.2.2 fl))) ⟨⟨hT9, hnm, hx9.2.1, hD9, (okC_H hs.1 hH9 _), (by split <;> omega), (by split <;> omega), hk9, hq9, hsi, hfl, hwi⟩, hx9.2, hx9.1, hx, (Hs_keep hol hct hs hv hh)⟩ ⟨rfl, rfl⟩ rfl (by show _ = wM _ _ (if ct < 8 then ct + 1 else ct) _ _ _ _ _ _ _ _ _ _ _ _ _ _ _ _ _ _ _; rw [show (if ct < 8 then ct + 1 else ct) = (if ct = 8 then 8 else ct + 1) by split <;> (split <;> omega)])
  · 
    refine ⟨_, k_X10_transpose0 s v pa ct tx t.1 si fl wi th ap nt rr rq rb wh md na nd up lo us lw se hs hv hse hC, ?_⟩
    rintro o w' ⟨rfl, rfl⟩
    exact Gl_i (p := .inr eIA) (c := (t, nm, s, D, H, ol, ct, k, y, si, fl, wi)) (by rw [cs_transpose, if_pos (by omega)]) (v, pa, tx, 1, ap, nt, rr, rq, rb, wh, md, na, nd, up, lo, us, lw) (zI 0) h ⟨rfl, 0, rfl⟩ rfl rfl

set_option maxHeartbeats 1000000 in
theorem r_respell (t nm : zRw) (s D : zSh) (H : Nat → zSh) (ol ct : Int) (k : zKd) (y : zLy) (si fl wi : Int) (v pa tx : Int → Int) (th ap nt rr rq rb wh : Int) (md na : Int → Int) (nd : Int) (up lo : Int → Int) (us lw : Int) (h : RelM (t, nm, s, D, H, ol, ct, k, y, si, fl, wi) v pa tx)  : zMetW q_X10_respell 4 0 0 [zR 0] (wM v pa ct tx t.1 si fl wi th ap nt rr rq rb wh md na nd up lo us lw) (Gl cd1 (cs_respell (t, nm, s, D, H, ol, ct, k, y, si, fl, wi))) := by
  obtain ⟨⟨hT9, hnm, hs9, hD9, hH9, hol, hct, hk9, hq9, hsi, hfl, hwi⟩, hs, hv, hx, hh⟩ := id h
  refine ⟨_, k_X10_respell s v pa ct tx t.1 si fl wi th ap nt rr rq rb wh md na nd up lo us lw hs hv hct hsi, ?_⟩
  rintro o w' ⟨x9, hx9, rfl, rfl⟩
  exact Gl_i (p := .inl (some (zI ((spR 0 s.2.2.2.2.2.1 si s.2.2.2.2.1.toNat 0 0 s.2.2.1).1)))) (c := (t, nm, (s.1, s.2.1, (spR 0 s.2.2.2.2.2.1 si s.2.2.2.2.1.toNat 0 0 s.2.2.1).2, s.2.2.2.1, s.2.2.2.2.1, s.2.2.2.2.2.1, s.2.2.2.2.2.2), D, hup H ((ol + ct) % 8).toNat s, (if ct < 8 then ol else (ol + 1) % 8), (if ct < 8 then ct + 1 else ct), k, y, si, fl, wi)) rfl (x9, actP v ct pa, tx, 0, ap, nt, rr, rq, rb, wh, md, na, nd, up, lo, us, lw) (zI ((spR 0 s.2.2.2.2.2.1 si s.2.2.2.2.1.toNat 0 0 s.2.2.1).1)) ⟨⟨hT9, hnm, hx9.2.1, hD9, (okC_H hs.1 hH9 _), (by split <;> omega), (by split <;> omega), hk9, hq9, hsi, hfl, hwi⟩, hx9.2, hx9.1, hx, (Hs_keep hol hct hs hv hh)⟩ ⟨rfl, rfl⟩ rfl (by show _ = wM _ _ (if ct < 8 then ct + 1 else ct) _ _ _ _ _ _ _ _ _ _ _ _ _ _ _ _ _ _ _; rw [show (if ct < 8 then ct + 1 else ct) = (if ct = 8 then 8 else ct + 1) by split <;> (split <;> omega)])

set_option maxHeartbeats 1000000 in
theorem r_undo (t nm : zRw) (s D : zSh) (H : Nat → zSh) (ol ct : Int) (k : zKd) (y : zLy) (si fl wi : Int) (v pa tx : Int → Int) (th ap nt rr rq rb wh : Int) (md na : Int → Int) (nd : Int) (up lo : Int → Int) (us lw : Int) (h : RelM (t, nm, s, D, H, ol, ct, k, y, si, fl, wi) v pa tx)  : zMetW q_X10_undo 1 0 0 [zR 0] (wM v pa ct tx t.1 si fl wi th ap nt rr rq rb wh md na nd up lo us lw) (Gl cd1 (cs_undo (t, nm, s, D, H, ol, ct, k, y, si, fl, wi))) := by
  obtain ⟨⟨hT9, hnm, hs9, hD9, hH9, hol, hct, hk9, hq9, hsi, hfl, hwi⟩, hs, hv, hx, hh⟩ := id h
  have M9 := k_X10_undo v pa ct tx t.1 si fl wi th ap nt rr rq rb wh md na nd up lo us lw hct
  by_cases hC : ct = 0
  · rw [if_pos hC, if_pos hC, if_pos hC, if_pos hC] at M9
    refine ⟨_, M9, ?_⟩
    rintro o w' ⟨rfl, rfl⟩
    exact Gl_i (p := .inr eIS) (c := (t, nm, s, D, H, ol, ct, k, y, si, fl, wi)) (by rw [cs_undo] <;> ((repeat (first | rw [if_pos (by omega)] | rw [if_neg (by omega)])) <;> rfl)) (v, pa, tx, 1, ap, nt, rr, rq, rb, wh, md, na, nd, up, lo, us, lw) (zI 0) h ⟨rfl, 0, rfl⟩ rfl rfl
  · rw [if_neg hC, if_neg hC, if_neg hC, if_neg hC] at M9
    have hu := hh (ct - 1) (by omega) (by omega)
    have hv2 : Vr (Hs H ol (ct - 1)) (undP pa (ct - 1) v) := Vr_cg hu.2 hu.1 (fun j j0 j1 => if_pos ⟨j0, j1⟩)
    refine ⟨_, M9, ?_⟩
    rintro o w' ⟨rfl, rfl⟩
    exact Gl_i (p := .inl (some (zI (ct - 1)))) (c := (t, nm, (H ((ol + (ct - 1)) % 8).toNat), D, H, ol, ct - 1, k, y, si, fl, wi)) (by rw [cs_undo, if_neg hC]) (undP pa (ct - 1) v, pa, tx, 0, ap, nt, rr, rq, rb, wh, md, na, nd, up, lo, us, lw) (zI (ct - 1)) ⟨⟨hT9, hnm, hu.1.1, hD9, hH9, hol, ⟨by omega, by omega⟩, hk9, hq9, hsi, hfl, hwi⟩, hu.1, hv2, hx, (fun a a0 a1 => hh a a0 (by omega))⟩ ⟨rfl, rfl⟩ rfl rfl

