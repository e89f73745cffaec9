set_option maxHeartbeats 1000000 in
theorem r_lines (t nm : zRw) (s D : zSh) (H : Nat → zSh) (ol ct : Int) (k : zKd) (y : zLy) (si fl wi : Int) (v pa tx : Int → Int) (th ap nt rr rq rb wh : Int) (md na : Int → Int) (nd : Int) (up lo : Int → Int) (us lw : Int) (h : RelM (t, nm, s, D, H, ol, ct, k, y, si, fl, wi) v pa tx)  : zMetW q_X10_lines 0 0 0 [zR 0] (wM v pa ct tx t.1 si fl wi th ap nt rr rq rb wh md na nd up lo us lw) (Gl cd1 (cs_lines (t, nm, s, D, H, ol, ct, k, y, si, fl, wi))) := by
  obtain ⟨⟨hT9, hnm, hs9, hD9, hH9, hol, hct, hk9, hq9, hsi, hfl, hwi⟩, hs, hv, hx, hh⟩ := id h
  refine ⟨_, k_X10_lines s v pa ct tx t.1 si fl wi th ap nt rr rq rb wh md na nd up lo us lw hs hv, ?_⟩
  rintro o w' ⟨rfl, rfl⟩
  exact Gl_i (p := .inl (some (zI (s.2.2.2.1)))) (c := (t, nm, s, D, H, ol, ct, k, y, si, fl, wi)) (by rw [cs_lines] <;> ((repeat (first | rw [if_pos (by omega)] | rw [if_neg (by omega)])) <;> rfl)) (v, pa, tx, 0, ap, nt, rr, rq, rb, wh, md, na, nd, up, lo, us, lw) (zI (s.2.2.2.1)) h ⟨rfl, rfl⟩ rfl rfl

set_option maxHeartbeats 1000000 in
theorem r_chords (t nm : zRw) (s D : zSh) (H : Nat → zSh) (ol ct : Int) (k : zKd) (y : zLy) (si fl wi : Int) (v pa tx : Int → Int) (th ap nt rr rq rb wh : Int) (md na : Int → Int) (nd : Int) (up lo : Int → Int) (us lw : Int) (h : RelM (t, nm, s, D, H, ol, ct, k, y, si, fl, wi) v pa tx)  : zMetW q_X10_chords 0 0 0 [zR 0] (wM v pa ct tx t.1 si fl wi th ap nt rr rq rb wh md na nd up lo us lw) (Gl cd1 (cs_chords (t, nm, s, D, H, ol, ct, k, y, si, fl, wi))) := by
  obtain ⟨⟨hT9, hnm, hs9, hD9, hH9, hol, hct, hk9, hq9, hsi, hfl, hwi⟩, hs, hv, hx, hh⟩ := id h
  refine ⟨_, k_X10_chords s v pa ct tx t.1 si fl wi th ap nt rr rq rb wh md na nd up lo us lw hs hv, ?_⟩
  rintro o w' ⟨rfl, rfl⟩
  exact Gl_i (p := .inl (some (zI (s.2.2.2.2.1)))) (c := (t, nm, s, D, H, ol, ct, k, y, si, fl, wi)) (by rw [cs_chords] <;> ((repeat (first | rw [if_pos (by omega)] | rw [if_neg (by omega)])) <;> rfl)) (v, pa, tx, 0, ap, nt, rr, rq, rb, wh, md, na, nd, up, lo, us, lw) (zI (s.2.2.2.2.1)) h ⟨rfl, rfl⟩ rfl rfl

set_option maxHeartbeats 1000000 in
theorem r_tonic (t nm : zRw) (s D : zSh) (H : Nat → zSh) (ol ct : Int) (k : zKd) (y : zLy) (si fl wi : Int) (v pa tx : Int → Int) (th ap nt rr rq rb wh : Int) (md na : Int → Int) (nd : Int) (up lo : Int → Int) (us lw : Int) (h : RelM (t, nm, s, D, H, ol, ct, k, y, si, fl, wi) v pa tx)  : zMetW q_X10_tonic 0 0 0 [zR 0] (wM v pa ct tx t.1 si fl wi th ap nt rr rq rb wh md na nd up lo us lw) (Gl cd1 (cs_tonic (t, nm, s, D, H, ol, ct, k, y, si, fl, wi))) := by
  obtain ⟨⟨hT9, hnm, hs9, hD9, hH9, hol, hct, hk9, hq9, hsi, hfl, hwi⟩, hs, hv, hx, hh⟩ := id h
  refine ⟨_, k_X10_tonic s v pa ct tx t.1 si fl wi th ap nt rr rq rb wh md na nd up lo us lw hs hv, ?_⟩
  rintro o w' ⟨rfl, rfl⟩
  exact Gl_i (p := .inl (some (zI (tonO s.2.2.2.2.2.1 s.2.2.2.2.2.2)))) (c := (t, nm, s, D, H, ol, ct, k, y, si, fl, wi)) (by rw [cs_tonic] <;> ((repeat (first | rw [if_pos (by omega)] | rw [if_neg (by omega)])) <;> rfl)) (v, pa, tx, 0, ap, nt, rr, rq, rb, wh, md, na, nd, up, lo, us, lw) (zI (tonO s.2.2.2.2.2.1 s.2.2.2.2.2.2)) h ⟨rfl, rfl⟩ rfl rfl

set_option maxHeartbeats 1000000 in
theorem r_isMinor (t nm : zRw) (s D : zSh) (H : Nat → zSh) (ol ct : Int) (k : zKd) (y : zLy) (si fl wi : Int) (v pa tx : Int → Int) (th ap nt rr rq rb wh : Int) (md na : Int → Int) (nd : Int) (up lo : Int → Int) (us lw : Int) (h : RelM (t, nm, s, D, H, ol, ct, k, y, si, fl, wi) v pa tx)  : zMetW q_X10_isMinor 0 0 0 [zR 0] (wM v pa ct tx t.1 si fl wi th ap nt rr rq rb wh md na nd up lo us lw) (Gl cd1 (cs_isMinor (t, nm, s, D, H, ol, ct, k, y, si, fl, wi))) := by
  obtain ⟨⟨hT9, hnm, hs9, hD9, hH9, hol, hct, hk9, hq9, hsi, hfl, hwi⟩, hs, hv, hx, hh⟩ := id h
  refine ⟨_, k_X10_isMinor s v pa ct tx t.1 si fl wi th ap nt rr rq rb wh md na nd up lo us lw hs hv, ?_⟩
  rintro o w' ⟨rfl, rfl⟩
  exact Gl_i (p := .inl (some (zI (s.2.2.2.2.2.2)))) (c := (t, nm, s, D, H, ol, ct, k, y, si, fl, wi)) (by rw [cs_isMinor] <;> ((repeat (first | rw [if_pos (by omega)] | rw [if_neg (by omega)])) <;> rfl)) (v, pa, tx, 0, ap, nt, rr, rq, rb, wh, md, na, nd, up, lo, us, lw) (zI (s.2.2.2.2.2.2)) h ⟨rfl, rfl⟩ rfl rfl

set_option maxHeartbeats 1000000 in
theorem r_signature (t nm : zRw) (s D : zSh) (H : Nat → zSh) (ol ct : Int) (k : zKd) (y : zLy) (si fl wi : Int) (v pa tx : Int → Int) (th ap nt rr rq rb wh : Int) (md na : Int → Int) (nd : Int) (up lo : Int → Int) (us lw : Int) (h : RelM (t, nm, s, D, H, ol, ct, k, y, si, fl, wi) v pa tx)  : zMetW q_X10_signature 1 0 0 [zR 0] (wM v pa ct tx t.1 si fl wi th ap nt rr rq rb wh md na nd up lo us lw) (Gl cd1 (cs_signature (t, nm, s, D, H, ol, ct, k, y, si, fl, wi))) := by
  obtain ⟨⟨hT9, hnm, hs9, hD9, hH9, hol, hct, hk9, hq9, hsi, hfl, hwi⟩, hs, hv, hx, hh⟩ := id h
  refine ⟨_, k_X10_signature s v pa ct tx t.1 si fl wi th ap nt rr rq rb wh md na nd up lo us lw hs hv, ?_⟩
  rintro o w' ⟨rfl, rfl⟩
  exact Gl_i (p := .inl (some (zI (s.2.2.2.2.2.1)))) (c := (t, nm, s, D, H, ol, ct, k, y, si, fl, wi)) (by rw [cs_signature] <;> ((repeat (first | rw [if_pos (by omega)] | rw [if_neg (by omega)])) <;> rfl)) (v, pa, tx, 0, ap, nt, rr, rq, rb, wh, md, na, nd, up, lo, us, lw) (zI (s.2.2.2.2.2.1)) h ⟨rfl, rfl⟩ rfl rfl

set_option maxHeartbeats 1000000 in
theorem r_findKey (t nm : zRw) (s D : zSh) (H : Nat → zSh) (ol ct : Int) (k : zKd) (y : zLy) (si fl wi : Int) (v pa tx : Int → Int) (th ap nt rr rq rb wh : Int) (md na : Int → Int) (nd : Int) (up lo : Int → Int) (us lw : Int) (h : RelM (t, nm, s, D, H, ol, ct, k, y, si, fl, wi) v pa tx)  : zMetW q_X10_findKey 5 0 0 [zR 0] (wM v pa ct tx t.1 si fl wi th ap nt rr rq rb wh md na nd up lo us lw) (Gl cd1 (cs_findKey (t, nm, s, D, H, ol, ct, k, y, si, fl, wi))) := by
  obtain ⟨⟨hT9, hnm, hs9, hD9, hH9, hol, hct, hk9, hq9, hsi, hfl, hwi⟩, hs, hv, hx, hh⟩ := id h
  refine ⟨_, k_X10_findKey s v pa ct tx t.1 si fl wi th ap nt rr rq rb wh md na nd up lo us lw hs hv, ?_⟩
  rintro o w' ⟨rfl, rfl⟩
  exact Gl_i (p := .inl (some (zI (beF s.2.2.1 s.2.2.2.2.1)))) (c := (t, nm, s, D, H, ol, ct, k, y, si, fl, wi)) (by rw [cs_findKey] <;> ((repeat (first | rw [if_pos (by omega)] | rw [if_neg (by omega)])) <;> rfl)) (v, pa, tx, 0, ap, nt, rr, rq, rb, wh, md, na, nd, up, lo, us, lw) (zI (beF s.2.2.1 s.2.2.2.2.1)) h ⟨rfl, rfl⟩ rfl rfl

set_option maxHeartbeats 1000000 in
theorem r_bestCapo (t nm : zRw) (s D : zSh) (H : Nat → zSh) (ol ct : Int) (k : zKd) (y : zLy) (si fl wi : Int) (v pa tx : Int → Int) (th ap nt rr rq rb wh : Int) (md na : Int → Int) (nd : Int) (up lo : Int → Int) (us lw : Int) (h : RelM (t, nm, s, D, H, ol, ct, k, y, si, fl, wi) v pa tx)  : zMetW q_X10_bestCapo 3 0 0 [zR 0] (wM v pa ct tx t.1 si fl wi th ap nt rr rq rb wh md na nd up lo us lw) (Gl cd1 (cs_bestCapo (t, nm, s, D, H, ol, ct, k, y, si, fl, wi))) := by
  obtain ⟨⟨hT9, hnm, hs9, hD9, hH9, hol, hct, hk9, hq9, hsi, hfl, hwi⟩, hs, hv, hx, hh⟩ := id h
  refine ⟨_, k_X10_bestCapo s v pa ct tx t.1 si fl wi th ap nt rr rq rb wh md na nd up lo us lw hs hv, ?_⟩
  rintro o w' ⟨rfl, rfl⟩
  exact Gl_i (p := .inl (some (zI (efF s.2.2.1 s.2.2.2.2.1)))) (c := (t, nm, s, D, H, ol, ct, k, y, si, fl, wi)) (by rw [cs_bestCapo] <;> ((repeat (first | rw [if_pos (by omega)] | rw [if_neg (by omega)])) <;> rfl)) (v, pa, tx, 0, ap, nt, rr, rq, rb, wh, md, na, nd, up, lo, us, lw) (zI (efF s.2.2.1 s.2.2.2.2.1)) h ⟨rfl, rfl⟩ rfl rfl

set_option maxHeartbeats 1000000 in
theorem r_fingerprint (t nm : zRw) (s D : zSh) (H : Nat → zSh) (ol ct : Int) (k : zKd) (y : zLy) (si fl wi : Int) (v pa tx : Int → Int) (th ap nt rr rq rb wh : Int) (md na : Int → Int) (nd : Int) (up lo : Int → Int) (us lw : Int) (h : RelM (t, nm, s, D, H, ol, ct, k, y, si, fl, wi) v pa tx)  : zMetW q_X10_fingerprint 1 0 0 [zR 0] (wM v pa ct tx t.1 si fl wi th ap nt rr rq rb wh md na nd up lo us lw) (Gl cd1 (cs_fingerprint (t, nm, s, D, H, ol, ct, k, y, si, fl, wi))) := by
  obtain ⟨⟨hT9, hnm, hs9, hD9, hH9, hol, hct, hk9, hq9, hsi, hfl, hwi⟩, hs, hv, hx, hh⟩ := id h
  refine ⟨_, k_X10_fingerprint s v pa ct tx t.1 si fl wi th ap nt rr rq rb wh md na nd up lo us lw hs hv, ?_⟩
  rintro o w' ⟨rfl, rfl⟩
  exact Gl_i (p := .inl (some (zJ (31 * (31 * (fpC (fun i f => s.2.2.1 (i * 5 + f)) s.2.2.2.2.1.toNat 0 (fpB (fun l => s.2.1 (l + 1) - s.2.1 l) (ltr s.1 s.2.1) s.2.2.2.1.toNat 0 (31 * 47 + s.2.2.2.1))) + tonO s.2.2.2.2.2.1 s.2.2.2.2.2.2) + (if s.2.2.2.2.2.2 = 0 then 0 else 1))))) (c := (t, nm, s, D, H, ol, ct, k, y, si, fl, wi)) (by rw [cs_fingerprint] <;> ((repeat (first | rw [if_pos (by omega)] | rw [if_neg (by omega)])) <;> rfl)) (v, pa, tx, 0, ap, nt, rr, rq, rb, wh, md, na, nd, up, lo, us, lw) (zJ (31 * (31 * (fpC (fun i f => s.2.2.1 (i * 5 + f)) s.2.2.2.2.1.toNat 0 (fpB (fun l => s.2.1 (l + 1) - s.2.1 l) (ltr s.1 s.2.1) s.2.2.2.1.toNat 0 (31 * 47 + s.2.2.2.1))) + tonO s.2.2.2.2.2.1 s.2.2.2.2.2.2) + (if s.2.2.2.2.2.2 = 0 then 0 else 1))) h ⟨rfl, rfl⟩ rfl rfl

set_option maxHeartbeats 1000000 in
theorem r_lyrics (t nm : zRw) (s D : zSh) (H : Nat → zSh) (ol ct : Int) (k : zKd) (y : zLy) (si fl wi : Int) (v pa tx : Int → Int) (th ap nt rr rq rb wh : Int) (md na : Int → Int) (nd : Int) (up lo : Int → Int) (us lw : Int) (h : RelM (t, nm, s, D, H, ol, ct, k, y, si, fl, wi) v pa tx) (l : Int) (hl : zin l) : zMetW q_X10_lyrics 2 0 0 [zR 0, zI l] (wM v pa ct tx t.1 si fl wi th ap nt rr rq rb wh md na nd up lo us lw) (Gl cd1 (cs_lyrics l (t, nm, s, D, H, ol, ct, k, y, si, fl, wi))) := by
  obtain ⟨⟨hT9, hnm, hs9, hD9, hH9, hol, hct, hk9, hq9, hsi, hfl, hwi⟩, hs, hv, hx, hh⟩ := id h
  have M9 := k_X10_lyrics s v pa ct tx t.1 si fl wi th ap nt rr rq rb wh md na nd up lo us lw l hs hv hl
  by_cases hC : 0 ≤ l ∧ l < s.2.2.2.1
  · rw [if_pos hC, if_pos hC] at M9
    refine ⟨_, M9, ?_⟩
    rintro o w' ⟨rfl, rfl⟩
    exact Gl_i (p := .inl (some (zI (s.2.1 (l + 1) - s.2.1 l)))) (c := (t, nm, s, D, H, ol, ct, k, y, si, fl, wi)) (by rw [cs_lyrics] <;> ((repeat (first | rw [if_pos (by omega)] | rw [if_neg (by omega)])) <;> rfl)) (v, pa, tx, 0, ap, nt, rr, rq, rb, wh, md, na, nd, up, lo, us, lw) (zI (s.2.1 (l + 1) - s.2.1 l)) h ⟨rfl, rfl⟩ rfl rfl
  · rw [if_neg hC, if_neg hC] at M9
    refine ⟨_, M9, ?_⟩
    rintro o w' ⟨rfl, rfl⟩
    exact Gl_i (p := .inr eIO) (c := (t, nm, s, D, H, ol, ct, k, y, si, fl, wi)) (by rw [cs_lyrics] <;> ((repeat (first | rw [if_pos (by omega)] | rw [if_neg (by omega)])) <;> rfl)) (v, pa, tx, 1, ap, nt, rr, rq, rb, wh, md, na, nd, up, lo, us, lw) (zI 0) h ⟨rfl, 0, rfl⟩ rfl rfl

set_option maxHeartbeats 1000000 in
theorem r_lyric (t nm : zRw) (s D : zSh) (H : Nat → zSh) (ol ct : Int) (k : zKd) (y : zLy) (si fl wi : Int) (v pa tx : Int → Int) (th ap nt rr rq rb wh : Int) (md na : Int → Int) (nd : Int) (up lo : Int → Int) (us lw : Int) (h : RelM (t, nm, s, D, H, ol, ct, k, y, si, fl, wi) v pa tx) (l : Int) (hl : zin l) (c : Int) (hc : zin c) : zMetW q_X10_lyric 2 0 0 [zR 0, zI l, zI c] (wM v pa ct tx t.1 si fl wi th ap nt rr rq rb wh md na nd up lo us lw) (Gl cd1 (cs_lyric l c (t, nm, s, D, H, ol, ct, k, y, si, fl, wi))) := by
  obtain ⟨⟨hT9, hnm, hs9, hD9, hH9, hol, hct, hk9, hq9, hsi, hfl, hwi⟩, hs, hv, hx, hh⟩ := id h
  have M9 := k_X10_lyric s v pa ct tx t.1 si fl wi th ap nt rr rq rb wh md na nd up lo us lw l c hs hv hl hc
  by_cases hC : (0 ≤ l ∧ l < s.2.2.2.1) ∧ (0 ≤ c ∧ c < s.2.1 (l + 1) - s.2.1 l)
  · rw [if_pos hC, if_pos hC] at M9
    refine ⟨_, M9, ?_⟩
    rintro o w' ⟨rfl, rfl⟩
    exact Gl_i (p := .inl (some (zI (ltr s.1 s.2.1 l c)))) (c := (t, nm, s, D, H, ol, ct, k, y, si, fl, wi)) (by rw [cs_lyric] <;> ((repeat (first | rw [if_pos (by omega)] | rw [if_neg (by omega)])) <;> rfl)) (v, pa, tx, 0, ap, nt, rr, rq, rb, wh, md, na, nd, up, lo, us, lw) (zI (ltr s.1 s.2.1 l c)) h ⟨rfl, rfl⟩ rfl rfl
  · rw [if_neg hC, if_neg hC] at M9
    refine ⟨_, M9, ?_⟩
    rintro o w' ⟨rfl, rfl⟩
    exact Gl_i (p := .inr eIO) (c := (t, nm, s, D, H, ol, ct, k, y, si, fl, wi)) (by rw [cs_lyric]; rcases Decidable.em (0 ≤ l ∧ l < s.2.2.2.1) with h0 | h0 <;> first | rw [if_neg (by omega), if_pos (by omega)] | rw [if_pos h0]) (v, pa, tx, 1, ap, nt, rr, rq, rb, wh, md, na, nd, up, lo, us, lw) (zI 0) h ⟨rfl, 0, rfl⟩ rfl rfl

set_option maxHeartbeats 1000000 in
theorem r_lineOf (t nm : zRw) (s D : zSh) (H : Nat → zSh) (ol ct : Int) (k : zKd) (y : zLy) (si fl wi : Int) (v pa tx : Int → Int) (th ap nt rr rq rb wh : Int) (md na : Int → Int) (nd : Int) (up lo : Int → Int) (us lw : Int) (h : RelM (t, nm, s, D, H, ol, ct, k, y, si, fl, wi) v pa tx) (i : Int) (hi : zin i) : zMetW q_X10_lineOf 3 0 0 [zR 0, zI i] (wM v pa ct tx t.1 si fl wi th ap nt rr rq rb wh md na nd up lo us lw) (Gl cd1 (cs_lineOf i (t, nm, s, D, H, ol, ct, k, y, si, fl, wi))) := by
  obtain ⟨⟨hT9, hnm, hs9, hD9, hH9, hol, hct, hk9, hq9, hsi, hfl, hwi⟩, hs, hv, hx, hh⟩ := id h
  have M9 := k_X10_lineOf s v pa ct tx t.1 si fl wi th ap nt rr rq rb wh md na nd up lo us lw i hs hv hi
  by_cases hC : 0 ≤ i ∧ i < s.2.2.2.2.1
  · rw [if_pos hC, if_pos hC] at M9
    refine ⟨_, M9, ?_⟩
    rintro o w' ⟨rfl, rfl⟩
    exact Gl_i (p := .inl (some (zI (s.2.2.1 (i * 5 + 0))))) (c := (t, nm, s, D, H, ol, ct, k, y, si, fl, wi)) (by rw [cs_lineOf] <;> ((repeat (first | rw [if_pos (by omega)] | rw [if_neg (by omega)])) <;> rfl)) (v, pa, tx, 0, ap, nt, rr, rq, rb, wh, md, na, nd, up, lo, us, lw) (zI (s.2.2.1 (i * 5 + 0))) h ⟨rfl, rfl⟩ rfl rfl
  · rw [if_neg hC, if_neg hC] at M9
    refine ⟨_, M9, ?_⟩
    rintro o w' ⟨rfl, rfl⟩
    exact Gl_i (p := .inr eIO) (c := (t, nm, s, D, H, ol, ct, k, y, si, fl, wi)) (by rw [cs_lineOf] <;> ((repeat (first | rw [if_pos (by omega)] | rw [if_neg (by omega)])) <;> rfl)) (v, pa, tx, 1, ap, nt, rr, rq, rb, wh, md, na, nd, up, lo, us, lw) (zI 0) h ⟨rfl, 0, rfl⟩ rfl rfl

set_option maxHeartbeats 1000000 in
theorem r_columnOf (t nm : zRw) (s D : zSh) (H : Nat → zSh) (ol ct : Int) (k : zKd) (y : zLy) (si fl wi : Int) (v pa tx : Int → Int) (th ap nt rr rq rb wh : Int) (md na : Int → Int) (nd : Int) (up lo : Int → Int) (us lw : Int) (h : RelM (t, nm, s, D, H, ol, ct, k, y, si, fl, wi) v pa tx) (i : Int) (hi : zin i) : zMetW q_X10_columnOf 3 0 0 [zR 0, zI i] (wM v pa ct tx t.1 si fl wi th ap nt rr rq rb wh md na nd up lo us lw) (Gl cd1 (cs_columnOf i (t, nm, s, D, H, ol, ct, k, y, si, fl, wi))) := by
  obtain ⟨⟨hT9, hnm, hs9, hD9, hH9, hol, hct, hk9, hq9, hsi, hfl, hwi⟩, hs, hv, hx, hh⟩ := id h
  have M9 := k_X10_columnOf s v pa ct tx t.1 si fl wi th ap nt rr rq rb wh md na nd up lo us lw i hs hv hi
  by_cases hC : 0 ≤ i ∧ i < s.2.2.2.2.1
  · rw [if_pos hC, if_pos hC] at M9
    refine ⟨_, M9, ?_⟩
    rintro o w' ⟨rfl, rfl⟩
    exact Gl_i (p := .inl (some (zI (s.2.2.1 (i * 5 + 1))))) (c := (t, nm, s, D, H, ol, ct, k, y, si, fl, wi)) (by rw [cs_columnOf] <;> ((repeat (first | rw [if_pos (by omega)] | rw [if_neg (by omega)])) <;> rfl)) (v, pa, tx, 0, ap, nt, rr, rq, rb, wh, md, na, nd, up, lo, us, lw) (zI (s.2.2.1 (i * 5 + 1))) h ⟨rfl, rfl⟩ rfl rfl
  · rw [if_neg hC, if_neg hC] at M9
    refine ⟨_, M9, ?_⟩
    rintro o w' ⟨rfl, rfl⟩
    exact Gl_i (p := .inr eIO) (c := (t, nm, s, D, H, ol, ct, k, y, si, fl, wi)) (by rw [cs_columnOf] <;> ((repeat (first | rw [if_pos (by omega)] | rw [if_neg (by omega)])) <;> rfl)) (v, pa, tx, 1, ap, nt, rr, rq, rb, wh, md, na, nd, up, lo, us, lw) (zI 0) h ⟨rfl, 0, rfl⟩ rfl rfl

set_option maxHeartbeats 1000000 in
theorem r_rootOf (t nm : zRw) (s D : zSh) (H : Nat → zSh) (ol ct : Int) (k : zKd) (y : zLy) (si fl wi : Int) (v pa tx : Int → Int) (th ap nt rr rq rb wh : Int) (md na : Int → Int) (nd : Int) (up lo : Int → Int) (us lw : Int) (h : RelM (t, nm, s, D, H, ol, ct, k, y, si, fl, wi) v pa tx) (i : Int) (hi : zin i) : zMetW q_X10_rootOf 3 0 0 [zR 0, zI i] (wM v pa ct tx t.1 si fl wi th ap nt rr rq rb wh md na nd up lo us lw) (Gl cd1 (cs_rootOf i (t, nm, s, D, H, ol, ct, k, y, si, fl, wi))) := by
  obtain ⟨⟨hT9, hnm, hs9, hD9, hH9, hol, hct, hk9, hq9, hsi, hfl, hwi⟩, hs, hv, hx, hh⟩ := id h
  have M9 := k_X10_rootOf s v pa ct tx t.1 si fl wi th ap nt rr rq rb wh md na nd up lo us lw i hs hv hi
  by_cases hC : 0 ≤ i ∧ i < s.2.2.2.2.1
  · rw [if_pos hC, if_pos hC] at M9
    refine ⟨_, M9, ?_⟩
    rintro o w' ⟨rfl, rfl⟩
    exact Gl_i (p := .inl (some (zI (s.2.2.1 (i * 5 + 2))))) (c := (t, nm, s, D, H, ol, ct, k, y, si, fl, wi)) (by rw [cs_rootOf] <;> ((repeat (first | rw [if_pos (by omega)] | rw [if_neg (by omega)])) <;> rfl)) (v, pa, tx, 0, ap, nt, rr, rq, rb, wh, md, na, nd, up, lo, us, lw) (zI (s.2.2.1 (i * 5 + 2))) h ⟨rfl, rfl⟩ rfl rfl
  · rw [if_neg hC, if_neg hC] at M9
    refine ⟨_, M9, ?_⟩
    rintro o w' ⟨rfl, rfl⟩
    exact Gl_i (p := .inr eIO) (c := (t, nm, s, D, H, ol, ct, k, y, si, fl, wi)) (by rw [cs_rootOf] <;> ((repeat (first | rw [if_pos (by omega)] | rw [if_neg (by omega)])) <;> rfl)) (v, pa, tx, 1, ap, nt, rr, rq, rb, wh, md, na, nd, up, lo, us, lw) (zI 0) h ⟨rfl, 0, rfl⟩ rfl rfl

set_option maxHeartbeats 1000000 in
theorem r_qualityOf (t nm : zRw) (s D : zSh) (H : Nat → zSh) (ol ct : Int) (k : zKd) (y : zLy) (si fl wi : Int) (v pa tx : Int → Int) (th ap nt rr rq rb wh : Int) (md na : Int → Int) (nd : Int) (up lo : Int → Int) (us lw : Int) (h : RelM (t, nm, s, D, H, ol, ct, k, y, si, fl, wi) v pa tx) (i : Int) (hi : zin i) : zMetW q_X10_qualityOf 3 0 0 [zR 0, zI i] (wM v pa ct tx t.1 si fl wi th ap nt rr rq rb wh md na nd up lo us lw) (Gl cd1 (cs_qualityOf i (t, nm, s, D, H, ol, ct, k, y, si, fl, wi))) := by
  obtain ⟨⟨hT9, hnm, hs9, hD9, hH9, hol, hct, hk9, hq9, hsi, hfl, hwi⟩, hs, hv, hx, hh⟩ := id h
  have M9 := k_X10_qualityOf s v pa ct tx t.1 si fl wi th ap nt rr rq rb wh md na nd up lo us lw i hs hv hi
  by_cases hC : 0 ≤ i ∧ i < s.2.2.2.2.1
  · rw [if_pos hC, if_pos hC] at M9
    refine ⟨_, M9, ?_⟩
    rintro o w' ⟨rfl, rfl⟩
    exact Gl_i (p := .inl (some (zI (s.2.2.1 (i * 5 + 3))))) (c := (t, nm, s, D, H, ol, ct, k, y, si, fl, wi)) (by rw [cs_qualityOf] <;> ((repeat (first | rw [if_pos (by omega)] | rw [if_neg (by omega)])) <;> rfl)) (v, pa, tx, 0, ap, nt, rr, rq, rb, wh, md, na, nd, up, lo, us, lw) (zI (s.2.2.1 (i * 5 + 3))) h ⟨rfl, rfl⟩ rfl rfl
  · rw [if_neg hC, if_neg hC] at M9
    refine ⟨_, M9, ?_⟩
    rintro o w' ⟨rfl, rfl⟩
    exact Gl_i (p := .inr eIO) (c := (t, nm, s, D, H, ol, ct, k, y, si, fl, wi)) (by rw [cs_qualityOf] <;> ((repeat (first | rw [if_pos (by omega)] | rw [if_neg (by omega)])) <;> rfl)) (v, pa, tx, 1, ap, nt, rr, rq, rb, wh, md, na, nd, up, lo, us, lw) (zI 0) h ⟨rfl, 0, rfl⟩ rfl rfl

set_option maxHeartbeats 1000000 in
theorem r_bassOf (t nm : zRw) (s D : zSh) (H : Nat → zSh) (ol ct : Int) (k : zKd) (y : zLy) (si fl wi : Int) (v pa tx : Int → Int) (th ap nt rr rq rb wh : Int) (md na : Int → Int) (nd : Int) (up lo : Int → Int) (us lw : Int) (h : RelM (t, nm, s, D, H, ol, ct, k, y, si, fl, wi) v pa tx) (i : Int) (hi : zin i) : zMetW q_X10_bassOf 3 0 0 [zR 0, zI i] (wM v pa ct tx t.1 si fl wi th ap nt rr rq rb wh md na nd up lo us lw) (Gl cd1 (cs_bassOf i (t, nm, s, D, H, ol, ct, k, y, si, fl, wi))) := by
  obtain ⟨⟨hT9, hnm, hs9, hD9, hH9, hol, hct, hk9, hq9, hsi, hfl, hwi⟩, hs, hv, hx, hh⟩ := id h
  have M9 := k_X10_bassOf s v pa ct tx t.1 si fl wi th ap nt rr rq rb wh md na nd up lo us lw i hs hv hi
  by_cases hC : 0 ≤ i ∧ i < s.2.2.2.2.1
  · rw [if_pos hC, if_pos hC] at M9
    refine ⟨_, M9, ?_⟩
    rintro o w' ⟨rfl, rfl⟩
    exact Gl_i (p := .inl (some (zI (s.2.2.1 (i * 5 + 4))))) (c := (t, nm, s, D, H, ol, ct, k, y, si, fl, wi)) (by rw [cs_bassOf] <;> ((repeat (first | rw [if_pos (by omega)] | rw [if_neg (by omega)])) <;> rfl)) (v, pa, tx, 0, ap, nt, rr, rq, rb, wh, md, na, nd, up, lo, us, lw) (zI (s.2.2.1 (i * 5 + 4))) h ⟨rfl, rfl⟩ rfl rfl
  · rw [if_neg hC, if_neg hC] at M9
    refine ⟨_, M9, ?_⟩
    rintro o w' ⟨rfl, rfl⟩
    exact Gl_i (p := .inr eIO) (c := (t, nm, s, D, H, ol, ct, k, y, si, fl, wi)) (by rw [cs_bassOf] <;> ((repeat (first | rw [if_pos (by omega)] | rw [if_neg (by omega)])) <;> rfl)) (v, pa, tx, 1, ap, nt, rr, rq, rb, wh, md, na, nd, up, lo, us, lw) (zI 0) h ⟨rfl, 0, rfl⟩ rfl rfl

set_option maxHeartbeats 1000000 in
theorem r_degree (t nm : zRw) (s D : zSh) (H : Nat → zSh) (ol ct : Int) (k : zKd) (y : zLy) (si fl wi : Int) (v pa tx : Int → Int) (th ap nt rr rq rb wh : Int) (md na : Int → Int) (nd : Int) (up lo : Int → Int) (us lw : Int) (h : RelM (t, nm, s, D, H, ol, ct, k, y, si, fl, wi) v pa tx) (i : Int) (hi : zin i) : zMetW q_X10_degree 3 0 0 [zR 0, zI i] (wM v pa ct tx t.1 si fl wi th ap nt rr rq rb wh md na nd up lo us lw) (Gl cd1 (cs_degree i (t, nm, s, D, H, ol, ct, k, y, si, fl, wi))) := by
  obtain ⟨⟨hT9, hnm, hs9, hD9, hH9, hol, hct, hk9, hq9, hsi, hfl, hwi⟩, hs, hv, hx, hh⟩ := id h
  have M9 := k_X10_degree s v pa ct tx t.1 si fl wi th ap nt rr rq rb wh md na nd up lo us lw i hs hv hi
  by_cases hC : 0 ≤ i ∧ i < s.2.2.2.2.1
  · rw [if_pos hC, if_pos hC] at M9
    refine ⟨_, M9, ?_⟩
    rintro o w' ⟨rfl, rfl⟩
    exact Gl_i (p := .inl (some (zI (dgF (pcl (s.2.2.1 (i * 5 + 2))) s.2.2.2.2.2.1 s.2.2.2.2.2.2)))) (c := (t, nm, s, D, H, ol, ct, k, y, si, fl, wi)) (by rw [cs_degree] <;> ((repeat (first | rw [if_pos (by omega)] | rw [if_neg (by omega)])) <;> rfl)) (v, pa, tx, 0, ap, nt, rr, rq, rb, wh, md, na, nd, up, lo, us, lw) (zI (dgF (pcl (s.2.2.1 (i * 5 + 2))) s.2.2.2.2.2.1 s.2.2.2.2.2.2)) h ⟨rfl, rfl⟩ rfl rfl
  · rw [if_neg hC, if_neg hC] at M9
    refine ⟨_, M9, ?_⟩
    rintro o w' ⟨rfl, rfl⟩
    exact Gl_i (p := .inr eIO) (c := (t, nm, s, D, H, ol, ct, k, y, si, fl, wi)) (by rw [cs_degree] <;> ((repeat (first | rw [if_pos (by omega)] | rw [if_neg (by omega)])) <;> rfl)) (v, pa, tx, 1, ap, nt, rr, rq, rb, wh, md, na, nd, up, lo, us, lw) (zI 0) h ⟨rfl, 0, rfl⟩ rfl rfl

set_option maxHeartbeats 1000000 in
theorem r_score (t nm : zRw) (s D : zSh) (H : Nat → zSh) (ol ct : Int) (k : zKd) (y : zLy) (si fl wi : Int) (v pa tx : Int → Int) (th ap nt rr rq rb wh : Int) (md na : Int → Int) (nd : Int) (up lo : Int → Int) (us lw : Int) (h : RelM (t, nm, s, D, H, ol, ct, k, y, si, fl, wi) v pa tx) (p : Int) (hp : zin p) (b : Int) (hb : b = 0 ∨ b = 1) : zMetW q_X10_score 4 0 0 [zR 0, zI p, zI b] (wM v pa ct tx t.1 si fl wi th ap nt rr rq rb wh md na nd up lo us lw) (Gl cd1 (cs_score p b (t, nm, s, D, H, ol, ct, k, y, si, fl, wi))) := by
  obtain ⟨⟨hT9, hnm, hs9, hD9, hH9, hol, hct, hk9, hq9, hsi, hfl, hwi⟩, hs, hv, hx, hh⟩ := id h
  have M9 := k_X10_score s v pa ct tx t.1 si fl wi th ap nt rr rq rb wh md na nd up lo us lw p b hs hv hp hb
  by_cases hC : -6 ≤ p - 3 * b ∧ p - 3 * b ≤ 6
  · rw [if_pos hC, if_pos hC] at M9
    refine ⟨_, M9, ?_⟩
    rintro o w' ⟨rfl, rfl⟩
    exact Gl_i (p := .inl (some (zI (scF s.2.2.1 s.2.2.2.2.1 (sigO p b) b)))) (c := (t, nm, s, D, H, ol, ct, k, y, si, fl, wi)) (by rw [cs_score] <;> ((repeat (first | rw [if_pos (by omega)] | rw [if_neg (by omega)])) <;> rfl)) (v, pa, tx, 0, ap, nt, rr, rq, rb, wh, md, na, nd, up, lo, us, lw) (zI (scF s.2.2.1 s.2.2.2.2.1 (sigO p b) b)) h ⟨rfl, rfl⟩ rfl rfl
  · rw [if_neg hC, if_neg hC] at M9
    refine ⟨_, M9, ?_⟩
    rintro o w' ⟨rfl, rfl⟩
    exact Gl_i (p := .inr eIA) (c := (t, nm, s, D, H, ol, ct, k, y, si, fl, wi)) (by rw [cs_score] <;> ((repeat (first | rw [if_pos (by omega)] | rw [if_neg (by omega)])) <;> rfl)) (v, pa, tx, 1, ap, nt, rr, rq, rb, wh, md, na, nd, up, lo, us, lw) (zI 0) h ⟨rfl, 0, rfl⟩ rfl rfl

set_option maxHeartbeats 1000000 in
theorem r_difficulty (t nm : zRw) (s D : zSh) (H : Nat → zSh) (ol ct : Int) (k : zKd) (y : zLy) (si fl wi : Int) (v pa tx : Int → Int) (th ap nt rr rq rb wh : Int) (md na : Int → Int) (nd : Int) (up lo : Int → Int) (us lw : Int) (h : RelM (t, nm, s, D, H, ol, ct, k, y, si, fl, wi) v pa tx) (f : Int) (hf : zin f) : zMetW q_X10_difficulty 3 0 0 [zR 0, zI f] (wM v pa ct tx t.1 si fl wi th ap nt rr rq rb wh md na nd up lo us lw) (Gl cd1 (cs_difficulty f (t, nm, s, D, H, ol, ct, k, y, si, fl, wi))) := by
  obtain ⟨⟨hT9, hnm, hs9, hD9, hH9, hol, hct, hk9, hq9, hsi, hfl, hwi⟩, hs, hv, hx, hh⟩ := id h
  have M9 := k_X10_difficulty s v pa ct tx t.1 si fl wi th ap nt rr rq rb wh md na nd up lo us lw f hs hv hf
  by_cases hC : 0 ≤ f ∧ f ≤ 7
  · rw [if_pos hC, if_pos hC] at M9
    refine ⟨_, M9, ?_⟩
    rintro o w' ⟨rfl, rfl⟩
    exact Gl_i (p := .inl (some (zI (dfF s.2.2.1 s.2.2.2.2.1 f)))) (c := (t, nm, s, D, H, ol, ct, k, y, si, fl, wi)) (by rw [cs_difficulty] <;> ((repeat (first | rw [if_pos (by omega)] | rw [if_neg (by omega)])) <;> rfl)) (v, pa, tx, 0, ap, nt, rr, rq, rb, wh, md, na, nd, up, lo, us, lw) (zI (dfF s.2.2.1 s.2.2.2.2.1 f)) h ⟨rfl, rfl⟩ rfl rfl
  · rw [if_neg hC, if_neg hC] at M9
    refine ⟨_, M9, ?_⟩
    rintro o w' ⟨rfl, rfl⟩
    exact Gl_i (p := .inr eIA) (c := (t, nm, s, D, H, ol, ct, k, y, si, fl, wi)) (by rw [cs_difficulty] <;> ((repeat (first | rw [if_pos (by omega)] | rw [if_neg (by omega)])) <;> rfl)) (v, pa, tx, 1, ap, nt, rr, rq, rb, wh, md, na, nd, up, lo, us, lw) (zI 0) h ⟨rfl, 0, rfl⟩ rfl rfl

def bitB (a p : Int) : Bool := zand (zshr a p) 1 == 1
theorem ht_all : (List.range 10).all (fun q => (List.range 12).all fun r => (List.range 13).all fun b => (List.range 12).all fun p => (let x := if b = 12 then zrs (zTones.getD q 0) r else zor (zrs (zTones.getD q 0) r) (zshl 1 b); Nat.testBit x.toNat p == decide ((b ≠ 12 ∧ b = p) ∨ zand (zshr (zTones.getD q 0) (((p : Int) - r) % 12)) 1 = 1))) = true := by decide +kernel
theorem ht_bit {r q b p : Int} (hq : 0 ≤ q ∧ q < 10) (hp : 0 ≤ p ∧ p < 12) : htF r q b p = if Nat.testBit (toneF r q b).toNat p.toNat then 1 else 0 := by
  have hr := pcl_b r
  have hb := pcl_b b
  have h1 := List.all_eq_true.mp (List.all_eq_true.mp ht_all q.toNat (List.mem_range.mpr (by omega))) (pcl r).toNat (List.mem_range.mpr (by omega))
  have hR : (((pcl r).toNat : Nat) : Int) = pcl r := Int.toNat_of_nonneg hr.1
  have hB : (((pcl b).toNat : Nat) : Int) = pcl b := Int.toNat_of_nonneg hb.1
  have hP : ((p.toNat : Nat) : Int) = p := Int.toNat_of_nonneg hp.1
  unfold htF toneF
  by_cases h100 : b = 100
  · have h2 := List.all_eq_true.mp (List.all_eq_true.mp h1 12 (by decide)) p.toNat (List.mem_range.mpr (by omega))
    have h3 := eq_of_beq h2
    rw [if_pos rfl, hR, hP] at h3
    rw [if_pos h100, h3]
    by_cases h4 : zand (zshr (zTones.getD q.toNat 0) ((p - pcl r) % 12)) 1 = 1
    · rw [if_pos (Or.inr h4), if_pos (decide_eq_true (Or.inr h4))]
    · rw [if_neg (by rintro (⟨h5, _⟩ | h5); exact h5 h100; exact h4 h5), if_neg (fun h => by rcases of_decide_eq_true h with ⟨h5, _⟩ | h5; exact h5 rfl; exact h4 h5)]
  · have h2 := List.all_eq_true.mp (List.all_eq_true.mp h1 (pcl b).toNat (List.mem_range.mpr (by omega))) p.toNat (List.mem_range.mpr (by omega))
    have h3 := eq_of_beq h2
    rw [if_neg (show ¬ (pcl b).toNat = 12 by omega), hR, hP, hB] at h3
    rw [if_neg h100, h3]
    by_cases h4 : zand (zshr (zTones.getD q.toNat 0) ((p - pcl r) % 12)) 1 = 1
    · rw [if_pos (Or.inr h4), if_pos (decide_eq_true (Or.inr h4))]
    · by_cases h5 : pcl b = p
      · rw [if_pos (Or.inl ⟨h100, h5⟩), if_pos (decide_eq_true (Or.inl ⟨by omega, by omega⟩))]
      · rw [if_neg (by rintro (⟨_, h6⟩ | h6); exact h5 h6; exact h4 h6), if_neg (fun h => by rcases of_decide_eq_true h with ⟨_, h6⟩ | h6; exact h5 (by omega); exact h4 h6)]
theorem zand_bit {a b : Int} (ha : 0 ≤ a ∧ a < 4096) (hb : 0 ≤ b ∧ b < 4096) (k : Nat) : Nat.testBit (zand a b).toNat k = (Nat.testBit a.toNat k && Nat.testBit b.toNat k) := by
  have e1 : ∀ x : Int, 0 ≤ x → x < 4096 → (Int32.ofInt x).toBitVec.toNat = x.toNat := by
    intro x x0 x1
    have e1 : (Int32.ofInt x).toInt = x := zin_t ⟨by omega, by omega⟩
    have h3 : (Int32.ofInt x).toInt = (Int32.ofInt x).toBitVec.toInt := rfl
    rw [BitVec.toInt_eq_toNat_cond] at h3
    have h4 := (Int32.ofInt x).toBitVec.isLt
    split at h3 <;> omega
  have e2 : (zand a b).toNat = a.toNat &&& b.toNat := by
    have h5 := zand_nat b ha
    have e3 : ((Int32.ofInt a &&& Int32.ofInt b).toBitVec).toNat = a.toNat &&& b.toNat := by
      rw [Int32.toBitVec_and, BitVec.toNat_and, e1 a ha.1 ha.2, e1 b hb.1 hb.2]
    have h3 : (Int32.ofInt a &&& Int32.ofInt b).toInt = (Int32.ofInt a &&& Int32.ofInt b).toBitVec.toInt := rfl
    unfold zand at h5 ⊢
    rw [BitVec.toInt_eq_toNat_cond] at h3
    have h4 := (Int32.ofInt a &&& Int32.ofInt b).toBitVec.isLt
    split at h3 <;> omega
  rw [e2, Nat.testBit_and]
theorem filt_len (p : Nat → Bool) : ∀ l : List Nat, (l.filter p).length = l.foldr (fun k n => (if p k = true then 1 else 0) + n) 0
  | [] => rfl
  | k :: l => by
    rw [List.filter_cons, List.foldr_cons, ← filt_len p l]
    cases p k
    · show (List.filter p l).length = 0 + (List.filter p l).length
      omega
    · show (List.filter p l).length + 1 = 1 + (List.filter p l).length
      omega
theorem ht_cnt {r q b r' q' b' : Int} (hq : 0 ≤ q ∧ q < 10) (hq' : 0 ≤ q' ∧ q' < 10) : htR r q b r' q' b' 12 0 0 = ((zpop (zand (toneF r q b) (toneF r' q' b')).toNat : Nat) : Int) := by
  have h1 := fun p (hp : 0 ≤ p ∧ p < 12) => ht_bit (r := r) (b := b) hq hp
  have h2 := fun p (hp : 0 ≤ p ∧ p < 12) => ht_bit (r := r') (b := b') hq' hp
  have h3 := zand_bit (toneF_b (r := r) (b := b) hq) (toneF_b (r := r') (b := b') hq')
  generalize (toneF r q b).toNat = X at h1 h3
  generalize (toneF r' q' b').toNat = Y at h2 h3
  generalize (zand (toneF r q b) (toneF r' q' b')).toNat = Z at h3
  have h4 : ∀ p : Nat, p < 12 → (if htF r q b (p : Int) = 1 ∧ htF r' q' b' (p : Int) = 1 then (1 : Int) else 0) = if Nat.testBit Z p then 1 else 0 := by
    intro p hp
    rw [h1 p (by omega), h2 p (by omega), h3 p, show ((p : Int)).toNat = p by omega]
    cases Nat.testBit X p <;> cases Nat.testBit Y p <;> rfl
  have a0 := h4 0 (by decide)
  have a1 := h4 1 (by decide)
  have a2 := h4 2 (by decide)
  have a3 := h4 3 (by decide)
  have a4 := h4 4 (by decide)
  have a5 := h4 5 (by decide)
  have a6 := h4 6 (by decide)
  have a7 := h4 7 (by decide)
  have a8 := h4 8 (by decide)
  have a9 := h4 9 (by decide)
  have a10 := h4 10 (by decide)
  have a11 := h4 11 (by decide)
  have e : ∀ c : Bool, (if c = true then (1 : Int) else 0) = ((if c = true then 1 else 0 : Nat) : Int) := fun c => by cases c <;> rfl
  have z : zpop Z = (if Nat.testBit Z 0 then 1 else 0) + (if Nat.testBit Z 1 then 1 else 0) + (if Nat.testBit Z 2 then 1 else 0) + (if Nat.testBit Z 3 then 1 else 0) + (if Nat.testBit Z 4 then 1 else 0) + (if Nat.testBit Z 5 then 1 else 0) + (if Nat.testBit Z 6 then 1 else 0) + (if Nat.testBit Z 7 then 1 else 0) + (if Nat.testBit Z 8 then 1 else 0) + (if Nat.testBit Z 9 then 1 else 0) + (if Nat.testBit Z 10 then 1 else 0) + (if Nat.testBit Z 11 then 1 else 0) := by
    unfold zpop
    rw [filt_len]
    show (if Nat.testBit Z 0 then 1 else 0) + ((if Nat.testBit Z 1 then 1 else 0) + ((if Nat.testBit Z 2 then 1 else 0) + ((if Nat.testBit Z 3 then 1 else 0) + ((if Nat.testBit Z 4 then 1 else 0) + ((if Nat.testBit Z 5 then 1 else 0) + ((if Nat.testBit Z 6 then 1 else 0) + ((if Nat.testBit Z 7 then 1 else 0) + ((if Nat.testBit Z 8 then 1 else 0) + ((if Nat.testBit Z 9 then 1 else 0) + ((if Nat.testBit Z 10 then 1 else 0) + ((if Nat.testBit Z 11 then 1 else 0) + 0))))))))))) = _
    omega
  rw [z]
  simp only [htR]
  show 0 + (if htF r q b ((0 : Nat) : Int) = 1 ∧ htF r' q' b' ((0 : Nat) : Int) = 1 then (1 : Int) else 0) + (if htF r q b ((1 : Nat) : Int) = 1 ∧ htF r' q' b' ((1 : Nat) : Int) = 1 then (1 : Int) else 0) + (if htF r q b ((2 : Nat) : Int) = 1 ∧ htF r' q' b' ((2 : Nat) : Int) = 1 then (1 : Int) else 0) + (if htF r q b ((3 : Nat) : Int) = 1 ∧ htF r' q' b' ((3 : Nat) : Int) = 1 then (1 : Int) else 0) + (if htF r q b ((4 : Nat) : Int) = 1 ∧ htF r' q' b' ((4 : Nat) : Int) = 1 then (1 : Int) else 0) + (if htF r q b ((5 : Nat) : Int) = 1 ∧ htF r' q' b' ((5 : Nat) : Int) = 1 then (1 : Int) else 0) + (if htF r q b ((6 : Nat) : Int) = 1 ∧ htF r' q' b' ((6 : Nat) : Int) = 1 then (1 : Int) else 0) + (if htF r q b ((7 : Nat) : Int) = 1 ∧ htF r' q' b' ((7 : Nat) : Int) = 1 then (1 : Int) else 0) + (if htF r q b ((8 : Nat) : Int) = 1 ∧ htF r' q' b' ((8 : Nat) : Int) = 1 then (1 : Int) else 0) + (if htF r q b ((9 : Nat) : Int) = 1 ∧ htF r' q' b' ((9 : Nat) : Int) = 1 then (1 : Int) else 0) + (if htF r q b ((10 : Nat) : Int) = 1 ∧ htF r' q' b' ((10 : Nat) : Int) = 1 then (1 : Int) else 0) + (if htF r q b ((11 : Nat) : Int) = 1 ∧ htF r' q' b' ((11 : Nat) : Int) = 1 then (1 : Int) else 0) = _
  rw [a0, a1, a2, a3, a4, a5, a6, a7, a8, a9, a10, a11, e, e, e, e, e, e, e, e, e, e, e, e]
  push_cast
  omega
