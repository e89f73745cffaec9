/-! THE LAYER: joins, tables -/
section ZJ
variable {Y : zY} {d mc ms n0 : Nat} {Post : zP → List zE → Prop} {pc : Nat} {ls : List (Nat × zV)} {st : List zV} {w : List zE} {nc ns : Nat}
theorem wa_join {J : Nat} {P : Int → Prop} (kJ : ∀ x, P x → Wa Y d mc ms n0 Post J ls (zI x :: st) w nc ns) (k : (∀ x, P x → Wa Y d mc ms n0 Post J ls (zI x :: st) w nc ns) → Wa Y d mc ms n0 Post pc ls st w nc ns) : Wa Y d mc ms n0 Post pc ls st w nc ns := k kJ
theorem wa_tabIn {a dflt lo hi off : Int} {offs : Array Int} {len tgt : Nat} (hd : decode Y.2.1 pc = .ok (.tableswitch dflt lo hi offs, len)) (ha : zin a) (h1 : ¬ a < lo) (h2 : ¬ hi < a) (ho : offs[(a - lo).toNat]? = some off) (ht : (pc : Int) + off = (tgt : Int)) (k : Wa Y d mc ms n0 Post tgt ls st w nc ns) : Wa Y d mc ms n0 Post pc ls (zI a :: st) w nc ns := by
  intro p l e R s m args below meth c G A ad0 Qm C F ad H locs lsA hag hst hl
  have kk := k p l e R s m args below meth c G A ad0 Qm C F ad H locs lsA hag hst hl
  obtain ⟨-, -, hx, hb, -⟩ := C
  exact lv_tableIn hx hb hd (by rw [zin_t ha]; exact h1) (by rw [zin_t ha]; exact h2) (by rw [zin_t ha]; exact ho) ht kk
theorem wa_tabOut {a dflt lo hi : Int} {offs : Array Int} {len tgt : Nat} (hd : decode Y.2.1 pc = .ok (.tableswitch dflt lo hi offs, len)) (ha : zin a) (h : a < lo ∨ hi < a) (ht : (pc : Int) + dflt = (tgt : Int)) (k : Wa Y d mc ms n0 Post tgt ls st w nc ns) : Wa Y d mc ms n0 Post pc ls (zI a :: st) w nc ns := by
  intro p l e R s m args below meth c G A ad0 Qm C F ad H locs lsA hag hst hl
  have kk := k p l e R s m args below meth c G A ad0 Qm C F ad H locs lsA hag hst hl
  obtain ⟨-, -, hx, hb, -⟩ := C
  exact lv_tableOut hx hb hd (by rw [zin_t ha]; exact h) ht kk
end ZJ
/-! the reference's world -/
def mLet : Int → Int := (zup (zup (zup (zup (zup (zup (zup (fun _ => 0) 0 70) 1 67) 2 71) 3 68) 4 65) 5 69) 6 66)
def mQua : Int → Int := (zup (zup (zup (zup (zup (zup (zup (zup (zup (zup (zup (zup (zup (zup (zup (zup (zup (zup (zup (zup (zup (zup (zup (zup (zup (zup (zup (zup (zup (zup (fun _ => 0) 0 59) 1 109) 2 59) 3 55) 4 59) 5 109) 6 55) 7 59) 8 109) 9 97) 10 106) 11 55) 12 59) 13 100) 14 105) 15 109) 16 59) 17 97) 18 117) 19 103) 20 59) 21 115) 22 117) 23 115) 24 52) 25 59) 26 54) 27 59) 28 57) 29 59)
abbrev wM (v pa : Int → Int) (sn : Int) (tx : Int → Int) (ty si fl wi th ap nt rr rq rb wh : Int) (md na : Int → Int) (nd : Int) (up lo : Int → Int) (us lw : Int) : List zE := [zO 6 [zR 1, zR 2, zI sn, zR 3, zI ty, zI si, zI fl, zI wi, zI th, zR 4, zR 5, zI ap, zI nt, zI rr, zI rq, zI rb, zI wh, zR 6, zR 7, zI nd, zR 8, zR 9, zI us, zI lw], zA 0 620 v, zA 0 4960 pa, zA 0 200 tx, zA 1 7 mLet, zA 1 30 mQua, zA 0 620 md, zA 0 20 na, zA 0 1200 up, zA 0 1200 lo]
/-- the reference's row of numbers holds the sheet -/
def Vr (s : zSh) (v : Int → Int) : Prop := v 0 = s.2.2.2.1 ∧ v 1 = s.2.2.2.2.1 ∧ v 2 = tonO s.2.2.2.2.2.1 s.2.2.2.2.2.2 ∧ v 3 = s.2.2.2.2.2.2 ∧ (∀ k : Int, 0 ≤ k → k ≤ s.2.2.2.1 → v (4 + k) = s.2.1 k) ∧ (∀ t : Int, 0 ≤ t → t < 5 * s.2.2.2.2.1 → v (210 + t) = s.2.2.1 t) ∧ (∀ j : Int, 0 ≤ j → j < s.2.1 s.2.2.2.1 → v (415 + j) = s.1 j)
/-- a sheet as it stands between calls -/
def okW (s : zSh) : Prop := okZ s ∧ s.2.1 0 = 0 ∧ (∀ k : Int, 0 ≤ k → k < s.2.2.2.1 → s.2.1 k ≤ s.2.1 (k + 1)) ∧ (∀ i : Int, 0 ≤ i → i < s.2.2.2.2.1 → 0 ≤ s.2.2.1 (i * 5 + 1) ∧ s.2.2.1 (i * 5 + 1) ≤ s.2.1 (s.2.2.1 (i * 5 + 0) + 1) - s.2.1 (s.2.2.1 (i * 5 + 0))) ∧ (∀ i j : Int, 0 ≤ i → i < j → j < s.2.2.2.2.1 → s.2.2.1 (i * 5 + 0) < s.2.2.1 (j * 5 + 0) ∨ (s.2.2.1 (i * 5 + 0) = s.2.2.1 (j * 5 + 0) ∧ s.2.2.1 (i * 5 + 1) ≤ s.2.2.1 (j * 5 + 1)))
theorem Vr_F {s : zSh} {v : Int → Int} (h : Vr s v) {i f : Int} (hi : 0 ≤ i ∧ i < s.2.2.2.2.1) (hf : 0 ≤ f ∧ f < 5) : v (210 + 5 * i + f) = s.2.2.1 (i * 5 + f) := by
  rw [show 210 + 5 * i + f = 210 + (i * 5 + f) by omega]
  exact h.2.2.2.2.2.1 _ (by omega) (by omega)
theorem Vr_T {s : zSh} {v : Int → Int} (h : Vr s v) {k : Int} (hk : 0 ≤ k ∧ k ≤ s.2.2.2.1) : v (4 + k) = s.2.1 k := h.2.2.2.2.1 k hk.1 hk.2
theorem Vr_T1 {s : zSh} {v : Int → Int} (h : Vr s v) {k : Int} (hk : 0 ≤ k ∧ k < s.2.2.2.1) : v (4 + k + 1) = s.2.1 (k + 1) := by
  rw [show 4 + k + 1 = 4 + (k + 1) by omega]
  exact h.2.2.2.2.1 _ (by omega) (by omega)
theorem Vr_sg {s : zSh} {v : Int → Int} (h : Vr s v) (hm : s.2.2.2.2.2.2 = 0 ∨ s.2.2.2.2.2.2 = 1) : v 2 - 3 * v 3 = s.2.2.2.2.2.1 := by
  rw [h.2.2.1, h.2.2.2.1]
  unfold tonO
  split <;> omega
theorem okW_T {s : zSh} (h : okW s) {a b : Int} (ha : 0 ≤ a) (hab : a ≤ b) (hb : b ≤ s.2.2.2.1) : s.2.1 a ≤ s.2.1 b := by
  have h2 : ∀ n : Nat, a + n ≤ s.2.2.2.1 → s.2.1 a ≤ s.2.1 (a + n) := by
    intro n
    induction n with
    | zero => intro _; rw [show a + ((0 : Nat) : Int) = a by omega]; omega
    | succ n ih =>
      intro hn
      have h3 := ih (by omega)
      have h4 := h.2.2.1 (a + n) (by omega) (by omega)
      rw [show a + ((n + 1 : Nat) : Int) = a + n + 1 by omega]
      omega
  have := h2 (b - a).toNat (by omega)
  rwa [show a + (((b - a).toNat : Nat) : Int) = b by omega] at this
theorem Vr_L {s : zSh} {v : Int → Int} (h : Vr s v) (hs : okW s) {l k : Int} (hl : 0 ≤ l ∧ l < s.2.2.2.1) (hk : 0 ≤ k ∧ k < s.2.1 (l + 1) - s.2.1 l) : v (415 + s.2.1 l + k) = ltr s.1 s.2.1 l k := by
  have h1 := okW_T hs (a := l + 1) (b := s.2.2.2.1) (by omega) (by omega) (by omega)
  have h2 := okW_T hs (a := 0) (b := l) (by omega) (by omega) (by omega)
  have h3 := hs.2.1
  rw [show 415 + s.2.1 l + k = 415 + (s.2.1 l + k) by omega, h.2.2.2.2.2.2 _ (by omega) (by omega)]
  unfold ltr
  rw [if_pos ⟨by omega, by omega⟩]
theorem zrv_id {n : Nat} {v : zV} (h : zokv n v = true) : zrv (List.range n) v = v := by
  rcases v with x | x | _ | k | k
  · rfl
  · rfl
  · rfl
  · show zR ((List.range n).getD k 0) = zR k
    rw [List.getD_eq_getElem?_getD, List.getElem?_range (zokv_lt h)]
    rfl
  · rfl
theorem zrvs_id {n : Nat} {l : List zV} (h : l.all (zokv n) = true) : l.map (zrv (List.range n)) = l := by
  have e : l.map (zrv (List.range n)) = l.map id := List.map_congr_left fun v hv => zrv_id (List.all_eq_true.mp h v hv)
  rw [e, List.map_id]
section ZI2
variable {Y Y1 : zY} {d d1 mc ms n0 : Nat} {Post : zP → List zE → Prop} {pc pc' : Nat} {ls : List (Nat × zV)} {st stk as : List zV} {w w2 : List zE} {nc ns : Nat}
theorem wa_iD2 {q ci : Nat} {fs : List zV} {vc : vw_C} {idx n : Nat} {v : Option zV} {st' : List zV} (M : zMet Y1 d1 0 0 (zR q :: as) w (zD v w2)) (hO : zOkV Y1 n) (hlink : Cond.methodLink Y.1.cls idx Y1.1 ∈ lw_tbl) (hd : decode Y.2.1 pc = .ok (.invokevirtual idx, 3)) (hp : pc + 3 = pc') (hok : zokw w.length w) (hl2 : w2.length = w.length) (hok2 : zokw w.length w2) (hstk : as.reverse ++ zR q :: st = stk) (has : as.all (zokv w.length) = true) (hq9 : q < w.length) (hna : as.length = n) (hq : w[q]? = some (zO ci fs)) (hvc : vwCl[ci]? = some vc) (hcls : vc.1 = Y1.1.cls) (hd1 : d1 + 1 ≤ d) (hcat : (st.map zcat).sum ≤ 8) (hh : Y.2.2.2.2 = []) (hmc : nc ≤ mc) (hms : ns ≤ ms) (hvv : v.toList.all (zokv w.length) = true) (hv : v.toList ++ st = st')
    (k : Wa Y d mc ms n0 Post pc' ls st' w2 nc ns) : Wa Y d mc ms n0 Post pc ls stk w nc ns := by
  refine wa_iD M hO hlink hd hp hok hl2 hok2 ?_ hna hq hvc hcls hd1 hcat hh hmc hms ?_ k
  · rw [zrvs_id has, List.getD_eq_getElem?_getD, List.getElem?_range hq9]
    exact hstk
  · rw [← hv]
    cases v with
    | none => rfl
    | some x =>
      show zrv (List.range w.length) x :: st = x :: st
      rw [zrv_id (List.all_eq_true.mp hvv x (List.mem_singleton.mpr rfl))]
theorem wa_rI2 {q ci : Nat} {fs : List zV} {vc : vw_C} {idx n : Nat} {v : Option zV} {st' : List zV} (M : zMet Y1 d1 0 0 (zR q :: as) w (zD v w)) (hO : zOkV Y1 n) (hlink : Cond.methodLink Y.1.cls idx Y1.1 ∈ lw_tbl) (hd : decode Y.2.1 pc = .ok (.invokevirtual idx, 3)) (hp : pc + 3 = pc') (hok : zokw w.length w) (hstk : as.reverse ++ zR q :: st = stk) (has : as.all (zokv w.length) = true) (hq9 : q < w.length) (hna : as.length = n) (hq : w[q]? = some (zO ci fs)) (hvc : vwCl[ci]? = some vc) (hcls : vc.1 = Y1.1.cls) (hd1 : d1 + 1 ≤ d) (hcat : (st.map zcat).sum ≤ 8) (hh : Y.2.2.2.2 = []) (hmc : nc ≤ mc) (hms : ns ≤ ms) (hvv : v.toList.all (zokv w.length) = true) (hv : v.toList ++ st = st')
    (k : Wa Y d mc ms n0 Post pc' ls st' w nc ns) : Wa Y d mc ms n0 Post pc ls stk w nc ns :=
  wa_iD2 M hO hlink hd hp hok rfl hok hstk has hq9 hna hq hvc hcls hd1 hcat hh hmc hms hvv hv k
end ZI2
theorem wM_ok (v pa : Int → Int) (sn : Int) (tx : Int → Int) (ty si fl wi th ap nt rr rq rb wh : Int) (md na : Int → Int) (nd : Int) (up lo : Int → Int) (us lw : Int) : zokw 10 (wM v pa sn tx ty si fl wi th ap nt rr rq rb wh md na nd up lo us lw) := ⟨rfl, trivial, trivial, trivial, trivial, trivial, trivial, trivial, trivial, trivial, trivial⟩
theorem tmod12_b (x : Int) : -12 < x.tmod 12 ∧ x.tmod 12 < 12 := ⟨Int.lt_tmod_of_pos x (by decide), Int.tmod_lt_of_pos x (by decide)⟩
theorem tmod12 (x : Int) : (x.tmod 12 + 12).tmod 12 = x % 12 := by
  have h1 := tmod12_b x
  rw [Int.tmod_eq_emod_of_nonneg (by omega)]
  by_cases h : 0 ≤ x
  · rw [Int.tmod_eq_emod_of_nonneg h]; omega
  · have h2 := z_tmod_neg (a := x) (b := 12) (by omega) (by decide)
    by_cases h3 : x.tmod 12 = 0
    · have := h2.1 h3; omega
    · have := h2.2 h3; omega
theorem mnC_all : ∀ q : Nat, q < 10 → zMinor.getD q 0 = if q = 1 ∨ q = 3 ∨ q = 5 then 1 else 0 := by decide
theorem mnC {q : Int} (hq : 0 ≤ q ∧ q < 10) : zMinor.getD q.toNat 0 = if q = 1 ∨ q = 3 ∨ q = 5 then 1 else 0 := by
  rw [mnC_all q.toNat (by omega)]
  split <;> (split <;> omega)
def esI (r q : Int) : Int := if q = 1 ∨ q = 3 then (if r = 9 ∨ r = 2 ∨ r = 4 then 1 else 0) else if (q = 0 ∧ (r = 9 ∨ r = 2 ∨ r = 4 ∨ r = 0 ∨ r = 7)) ∨ (q = 2 ∧ (r = 9 ∨ r = 2 ∨ r = 4 ∨ r = 0 ∨ r = 7 ∨ r = 11)) then 1 else 0
theorem esI_all : (List.range 10).all (fun q => (List.range 12).all fun r => decide (esI r q = easyF q r)) = true := by decide +kernel
theorem esI_e {r q : Int} (hr : 0 ≤ r ∧ r < 12) (hq : 0 ≤ q ∧ q < 10) : esI r q = easyF q.toNat r := by
  have h1 := of_decide_eq_true (List.all_eq_true.mp (List.all_eq_true.mp esI_all q.toNat (List.mem_range.mpr (by omega))) r.toNat (List.mem_range.mpr (by omega)))
  rwa [show ((r.toNat : Nat) : Int) = r by omega, show ((q.toNat : Nat) : Int) = q by omega] at h1
/-- the scale, note by note -/
def isR (pt : Int) : Nat → Int → Int → Int
  | 0, _, b => b
  | m + 1, p, b => isR pt m (p + 1) (if b = 1 ∨ pcl p = pt then 1 else 0)
theorem isR_all : (List.range 21).all (fun a => (List.range 12).all fun p => decide (isR p 7 ((a : Int) - 10 - 1) 0 = inS ((a : Int) - 10) p)) = true := by decide +kernel
theorem isR_e {sg p : Int} (hs : -10 ≤ sg ∧ sg ≤ 10) (hp : 0 ≤ p ∧ p < 12) : isR p 7 (sg - 1) 0 = inS sg p := by
  have h1 := of_decide_eq_true (List.all_eq_true.mp (List.all_eq_true.mp isR_all (sg + 10).toNat (List.mem_range.mpr (by omega))) p.toNat (List.mem_range.mpr (by omega)))
  rwa [show ((p.toNat : Nat) : Int) = p by omega, show (((sg + 10).toNat : Nat) : Int) - 10 = sg by omega] at h1
section ZWR
variable {Y : zY} {d mc ms n0 : Nat} {Post : zP → List zE → Prop} {pc : Nat} {ls : List (Nat × zV)} {st : List zV} {w : List zE} {nc ns : Nat}
theorem wa_wrap {a b : Int} (h : Int32.ofInt a = Int32.ofInt b) (k : Wa Y d mc ms n0 Post pc ls (zI b :: st) w nc ns) : Wa Y d mc ms n0 Post pc ls (zI a :: st) w nc ns := by
  intro p l e R s m args below meth c G A ad0 Qm C F ad H locs lsA hag hst hl
  have kk := k p l e R s m args below meth c G A ad0 Qm C F ad H locs lsA hag hst hl
  have e1 : zc G.2.2.1 ad (zI a) = zc G.2.2.1 ad (zI b) := congrArg Value.int h
  rw [List.map_cons, e1, ← List.map_cons]
  exact kk
end ZWR
theorem zwrap (a : Int) : Int32.ofInt a = Int32.ofInt (a + 4294967296) := by
  apply Int32.toInt_inj.mp
  rw [Int32.toInt_ofInt, Int32.toInt_ofInt]
  exact (Int.add_bmod_right ..).symm
set_option maxRecDepth 10000 in
set_option maxHeartbeats 1000000 in
theorem k_X10_in (x : Int) (a : Int) (b : Int) (hx : zin x) (ha : zin a) (hb : zin b) : zMet q_X10_in 0 0 0 [zI x, zI a, zI b] [] (zD (some (zI (if a ≤ x ∧ x ≤ b then 1 else 0))) []) := by
  refine z_introF (ls := [(0, _), (1, _), (2, _)]) (by decide +kernel) rfl (fun _ _ => rfl) (fun _ _ => Nat.le_of_ble_eq_true rfl) ?_
  refine wa_iload_n (pc' := 1) dX10_in_0 rfl rfl rfl ?_
  refine wa_iload_n (pc' := 2) dX10_in_1 rfl rfl rfl ?_
  refine wa_icmp_lt (tgt := 14) (pc' := 5) dX10_in_2 (by decide) rfl (by omega) (by omega) (fun c2 => ?_) (fun c2 => ?_)
  · refine wa_iconst (pc' := 15) dX10_in_14 rfl ?_
    refine wa_zret dX10_in_15 rfl (by decide) (by decide) (by omega) ?_
    first | exact zD_i rfl rfl | exact zD_i (by rw [if_pos (by omega)]) rfl | exact zD_i (by rw [if_neg (by omega)]) rfl
  · refine wa_iload_n (pc' := 6) dX10_in_5 rfl rfl rfl ?_
    refine wa_iload_n (pc' := 7) dX10_in_6 rfl rfl rfl ?_
    refine wa_icmp_gt (tgt := 14) (pc' := 10) dX10_in_7 (by decide) rfl (by omega) (by omega) (fun c7 => ?_) (fun c7 => ?_)
    · refine wa_iconst (pc' := 15) dX10_in_14 rfl ?_
      refine wa_zret dX10_in_15 rfl (by decide) (by decide) (by omega) ?_
      first | exact zD_i rfl rfl | exact zD_i (by rw [if_pos (by omega)]) rfl | exact zD_i (by rw [if_neg (by omega)]) rfl
    · refine wa_iconst (pc' := 11) dX10_in_10 rfl ?_
      refine wa_goto (pc' := 15) dX10_in_11 (by decide) ?_
      refine wa_zret dX10_in_15 rfl (by decide) (by decide) (by omega) ?_
      first | exact zD_i rfl rfl | exact zD_i (by rw [if_pos (by omega)]) rfl | exact zD_i (by rw [if_neg (by omega)]) rfl

set_option maxRecDepth 10000 in
set_option maxHeartbeats 1000000 in
theorem k_X10_chord (i : Int) (hi : -1000000 ≤ i ∧ i ≤ 1000000) : zMet q_X10_chord 0 0 0 [zI i] [] (zD (some (zI (210 + 5 * i))) []) := by
  refine z_introF (ls := [(0, _)]) (by decide +kernel) rfl (fun _ _ => rfl) (fun _ _ => Nat.le_of_ble_eq_true rfl) ?_
  refine wa_sipush (pc' := 3) dX10_chord_0 rfl rfl ?_
  refine wa_iconst (pc' := 4) dX10_chord_3 rfl ?_
  refine wa_iload_n (pc' := 5) dX10_chord_4 rfl rfl rfl ?_
  refine wa_imul (pc' := 6) dX10_chord_5 rfl ?_
  refine wa_iadd (pc' := 7) dX10_chord_6 rfl ?_
  refine wa_iret dX10_chord_7 rfl (by decide) (by decide) ?_
  first | exact zD_i rfl rfl | exact zD_i (by rw [if_pos (by omega)]) rfl | exact zD_i (by rw [if_neg (by omega)]) rfl

set_option maxRecDepth 10000 in
set_option maxHeartbeats 1000000 in
theorem k_X10_mod12 (x : Int) (hx : -1000000 ≤ x ∧ x ≤ 1000000) : zMet q_X10_mod12 0 0 0 [zI x] [] (zD (some (zI (x % 12))) []) := by
  refine z_introF (ls := [(0, _)]) (by decide +kernel) rfl (fun _ _ => rfl) (fun _ _ => Nat.le_of_ble_eq_true rfl) ?_
  have h1 := tmod12_b x
  refine wa_iload_n (pc' := 1) dX10_mod12_0 rfl rfl rfl ?_
  refine wa_bipush (pc' := 3) dX10_mod12_1 rfl rfl ?_
  refine wa_irem (pc' := 4) dX10_mod12_3 rfl (by omega) (by omega) (by omega) (z_tdiv (by omega) (by omega)) ?_
  refine wa_bipush (pc' := 6) dX10_mod12_4 rfl rfl ?_
  refine wa_iadd (pc' := 7) dX10_mod12_6 rfl ?_
  refine wa_bipush (pc' := 9) dX10_mod12_7 rfl rfl ?_
  refine wa_irem (pc' := 10) dX10_mod12_9 rfl (by omega) (by omega) (by omega) (z_tdiv (by omega) (by omega)) ?_
  refine wa_iret dX10_mod12_10 rfl (by decide) (by decide) ?_
  exact zD_i (congrArg (fun x => some (zI x)) (tmod12 x)) rfl

set_option maxRecDepth 10000 in
set_option maxHeartbeats 1000000 in
theorem k_X10_pitch (p : Int) (hp : -100000 ≤ p ∧ p ≤ 100000) : zMet q_X10_pitch 1 0 0 [zI p] [] (zD (some (zI (pcl p))) []) := by
  refine z_introF (ls := [(0, _)]) (by decide +kernel) rfl (fun _ _ => rfl) (fun _ _ => Nat.le_of_ble_eq_true rfl) ?_
  refine wa_bipush (pc' := 2) dX10_pitch_0 rfl rfl ?_
  refine wa_iload_n (pc' := 3) dX10_pitch_2 rfl rfl rfl ?_
  refine wa_imul (pc' := 4) dX10_pitch_3 rfl ?_
  refine wa_dS (pc' := 7) (w' := []) (k_X10_mod12 (7 * p) (by omega)) ok_X10_mod12 lm_X10_52 dX10_pitch_4 rfl [] rfl (by decide) rfl rfl (by decide) (Nat.le_of_ble_eq_true rfl) rfl (by decide) (by decide) rfl rfl rfl ?_
  refine wa_iret dX10_pitch_7 rfl (by decide) (by decide) ?_
  first | exact zD_i rfl rfl | exact zD_i (by rw [if_pos (by omega)]) rfl | exact zD_i (by rw [if_neg (by omega)]) rfl

set_option maxRecDepth 10000 in
set_option maxHeartbeats 1000000 in
theorem k_X10_isMinorChord (q : Int) (hq : 0 ≤ q ∧ q < 10) : zMet q_X10_isMinorChord 0 0 0 [zI q] [] (zD (some (zI (zMinor.getD q.toNat 0))) []) := by
  refine z_introF (ls := [(0, _)]) (by decide +kernel) rfl (fun _ _ => rfl) (fun _ _ => Nat.le_of_ble_eq_true rfl) ?_
  refine wa_iload_n (pc' := 1) dX10_isMinorChord_0 rfl rfl rfl ?_
  refine wa_iconst (pc' := 2) dX10_isMinorChord_1 rfl ?_
  refine wa_icmp_eq (tgt := 15) (pc' := 5) dX10_isMinorChord_2 (by decide) rfl (by omega) (by omega) (fun c2 => ?_) (fun c2 => ?_)
  · refine wa_iconst (pc' := 16) dX10_isMinorChord_15 rfl ?_
    refine wa_goto (pc' := 20) dX10_isMinorChord_16 (by decide) ?_
    refine wa_zret dX10_isMinorChord_20 rfl (by decide) (by decide) (by omega) ?_
    exact zD_i (congrArg (fun x => some (zI x)) (by rw [mnC hq]; (repeat (first | rw [if_pos (by omega)] | rw [if_neg (by omega)])) <;> rfl)) rfl
  · refine wa_iload_n (pc' := 6) dX10_isMinorChord_5 rfl rfl rfl ?_
    refine wa_iconst (pc' := 7) dX10_isMinorChord_6 rfl ?_
    refine wa_icmp_eq (tgt := 15) (pc' := 10) dX10_isMinorChord_7 (by decide) rfl (by omega) (by omega) (fun c7 => ?_) (fun c7 => ?_)
    · refine wa_iconst (pc' := 16) dX10_isMinorChord_15 rfl ?_
      refine wa_goto (pc' := 20) dX10_isMinorChord_16 (by decide) ?_
      refine wa_zret dX10_isMinorChord_20 rfl (by decide) (by decide) (by omega) ?_
      exact zD_i (congrArg (fun x => some (zI x)) (by rw [mnC hq]; (repeat (first | rw [if_pos (by omega)] | rw [if_neg (by omega)])) <;> rfl)) rfl
    · refine wa_iload_n (pc' := 11) dX10_isMinorChord_10 rfl rfl rfl ?_
      refine wa_iconst (pc' := 12) dX10_isMinorChord_11 rfl ?_
      refine wa_icmp_ne (tgt := 19) (pc' := 15) dX10_isMinorChord_12 (by decide) rfl (by omega) (by omega) (fun c12 => ?_) (fun c12 => ?_)
      · refine wa_iconst (pc' := 20) dX10_isMinorChord_19 rfl ?_
        refine wa_zret dX10_isMinorChord_20 rfl (by decide) (by decide) (by omega) ?_
        exact zD_i (congrArg (fun x => some (zI x)) (by rw [mnC hq]; (repeat (first | rw [if_pos (by omega)] | rw [if_neg (by omega)])) <;> rfl)) rfl
      · refine wa_iconst (pc' := 16) dX10_isMinorChord_15 rfl ?_
        refine wa_goto (pc' := 20) dX10_isMinorChord_16 (by decide) ?_
        refine wa_zret dX10_isMinorChord_20 rfl (by decide) (by decide) (by omega) ?_
        exact zD_i (congrArg (fun x => some (zI x)) (by rw [mnC hq]; (repeat (first | rw [if_pos (by omega)] | rw [if_neg (by omega)])) <;> rfl)) rfl

set_option maxRecDepth 10000 in
set_option maxHeartbeats 1000000 in
theorem k_X10_isEasy (r : Int) (q : Int) (hr : 0 ≤ r ∧ r < 12) (hq : 0 ≤ q ∧ q < 10) : zMet q_X10_isEasy 0 0 0 [zI r, zI q] [] (zD (some (zI (esI r q))) []) := by
  refine z_introF (ls := [(0, _), (1, _)]) (by decide +kernel) rfl (fun _ _ => rfl) (fun _ _ => Nat.le_of_ble_eq_true rfl) ?_
  refine wa_join (J := 21) (P := fun x => x = 1 ∧ (r = 9 ∨ r = 2 ∨ r = 4) ∨ x = 0 ∧ ¬ (r = 9 ∨ r = 2 ∨ r = 4)) (fun x21 e21 => ?_) (fun K21 => ?_)
  · refine wa_istore_n (pc' := 22) (ls' := [(2, _), (0, _), (1, _)]) dX10_isEasy_21 rfl rfl (by decide) rfl ?_
    refine wa_iload_n (pc' := 23) dX10_isEasy_22 rfl rfl rfl ?_
    refine wa_iconst (pc' := 24) dX10_isEasy_23 rfl ?_
    refine wa_icmp_eq (tgt := 32) (pc' := 27) dX10_isEasy_24 (by decide) rfl (by omega) (by omega) (fun c24 => ?_) (fun c24 => ?_)
    · refine wa_iload_n (pc' := 33) dX10_isEasy_32 rfl rfl rfl ?_
      refine wa_zret dX10_isEasy_33 rfl (by decide) (by decide) (by omega) ?_
      exact zD_i (congrArg (fun x => some (zI x)) (by unfold esI; (repeat' split) <;> omega)) rfl
    · refine wa_iload_n (pc' := 28) dX10_isEasy_27 rfl rfl rfl ?_
      refine wa_iconst (pc' := 29) dX10_isEasy_28 rfl ?_
      refine wa_icmp_ne (tgt := 34) (pc' := 32) dX10_isEasy_29 (by decide) rfl (by omega) (by omega) (fun c29 => ?_) (fun c29 => ?_)
      · refine wa_iload_n (pc' := 35) dX10_isEasy_34 rfl rfl rfl ?_
        refine wa_if_ne (tgt := 52) (pc' := 38) dX10_isEasy_35 (by decide) rfl (by omega) (fun c35 => ?_) (fun c35 => ?_)
        · refine wa_iload_n (pc' := 53) dX10_isEasy_52 rfl rfl rfl ?_
          refine wa_iconst (pc' := 54) dX10_isEasy_53 rfl ?_
          refine wa_icmp_ne (tgt := 81) (pc' := 57) dX10_isEasy_54 (by decide) rfl (by omega) (by omega) (fun c54 => ?_) (fun c54 => ?_)
          · refine wa_iconst (pc' := 82) dX10_isEasy_81 rfl ?_
            refine wa_zret dX10_isEasy_82 rfl (by decide) (by decide) (by omega) ?_
            exact zD_i (congrArg (fun x => some (zI x)) (by unfold esI; (repeat' split) <;> omega)) rfl
          · refine wa_iload_n (pc' := 58) dX10_isEasy_57 rfl rfl rfl ?_
            refine wa_if_ne (tgt := 77) (pc' := 61) dX10_isEasy_58 (by decide) rfl (by omega) (fun c58 => ?_) (fun c58 => ?_)
            · refine wa_iconst (pc' := 78) dX10_isEasy_77 rfl ?_
              refine wa_goto (pc' := 82) dX10_isEasy_78 (by decide) ?_
              refine wa_zret dX10_isEasy_82 rfl (by decide) (by decide) (by omega) ?_
              exact zD_i (congrArg (fun x => some (zI x)) (by unfold esI; (repeat' split) <;> omega)) rfl
            · refine wa_iload_n (pc' := 62) dX10_isEasy_61 rfl rfl rfl ?_
              refine wa_if_eq (tgt := 77) (pc' := 65) dX10_isEasy_62 (by decide) rfl (by omega) (fun c62 => ?_) (fun c62 => ?_)
              · refine wa_iconst (pc' := 78) dX10_isEasy_77 rfl ?_
                refine wa_goto (pc' := 82) dX10_isEasy_78 (by decide) ?_
                refine wa_zret dX10_isEasy_82 rfl (by decide) (by decide) (by omega) ?_
                exact zD_i (congrArg (fun x => some (zI x)) (by unfold esI; (repeat' split) <;> omega)) rfl
              · refine wa_iload_n (pc' := 66) dX10_isEasy_65 rfl rfl rfl ?_
                refine wa_bipush (pc' := 68) dX10_isEasy_66 rfl rfl ?_
                refine wa_icmp_eq (tgt := 77) (pc' := 71) dX10_isEasy_68 (by decide) rfl (by omega) (by omega) (fun c68 => ?_) (fun c68 => ?_)
                · refine wa_iconst (pc' := 78) dX10_isEasy_77 rfl ?_
                  refine wa_goto (pc' := 82) dX10_isEasy_78 (by decide) ?_
                  refine wa_zret dX10_isEasy_82 rfl (by decide) (by decide) (by omega) ?_
                  exact zD_i (congrArg (fun x => some (zI x)) (by unfold esI; (repeat' split) <;> omega)) rfl
                · refine wa_iload_n (pc' := 72) dX10_isEasy_71 rfl rfl rfl ?_
                  refine wa_bipush (pc' := 74) dX10_isEasy_72 rfl rfl ?_
                  refine wa_icmp_ne (tgt := 81) (pc' := 77) dX10_isEasy_74 (by decide) rfl (by omega) (by omega) (fun c74 => ?_) (fun c74 => ?_)
                  · refine wa_iconst (pc' := 82) dX10_isEasy_81 rfl ?_
                    refine wa_zret dX10_isEasy_82 rfl (by decide) (by decide) (by omega) ?_
                    exact zD_i (congrArg (fun x => some (zI x)) (by unfold esI; (repeat' split) <;> omega)) rfl
                  · refine wa_iconst (pc' := 78) dX10_isEasy_77 rfl ?_
                    refine wa_goto (pc' := 82) dX10_isEasy_78 (by decide) ?_
                    refine wa_zret dX10_isEasy_82 rfl (by decide) (by decide) (by omega) ?_
                    exact zD_i (congrArg (fun x => some (zI x)) (by unfold esI; (repeat' split) <;> omega)) rfl
        · refine wa_iload_n (pc' := 39) dX10_isEasy_38 rfl rfl rfl ?_
          refine wa_if_ne (tgt := 77) (pc' := 42) dX10_isEasy_39 (by decide) rfl (by omega) (fun c39 => ?_) (fun c39 => ?_)
          · refine wa_iconst (pc' := 78) dX10_isEasy_77 rfl ?_
            refine wa_goto (pc' := 82) dX10_isEasy_78 (by decide) ?_
            refine wa_zret dX10_isEasy_82 rfl (by decide) (by decide) (by omega) ?_
            exact zD_i (congrArg (fun x => some (zI x)) (by unfold esI; (repeat' split) <;> omega)) rfl
          · refine wa_iload_n (pc' := 43) dX10_isEasy_42 rfl rfl rfl ?_
            refine wa_if_eq (tgt := 77) (pc' := 46) dX10_isEasy_43 (by decide) rfl (by omega) (fun c43 => ?_) (fun c43 => ?_)
            · refine wa_iconst (pc' := 78) dX10_isEasy_77 rfl ?_
              refine wa_goto (pc' := 82) dX10_isEasy_78 (by decide) ?_
              refine wa_zret dX10_isEasy_82 rfl (by decide) (by decide) (by omega) ?_
              exact zD_i (congrArg (fun x => some (zI x)) (by unfold esI; (repeat' split) <;> omega)) rfl
            · refine wa_iload_n (pc' := 47) dX10_isEasy_46 rfl rfl rfl ?_
              refine wa_bipush (pc' := 49) dX10_isEasy_47 rfl rfl ?_
              refine wa_icmp_eq (tgt := 77) (pc' := 52) dX10_isEasy_49 (by decide) rfl (by omega) (by omega) (fun c49 => ?_) (fun c49 => ?_)
              · refine wa_iconst (pc' := 78) dX10_isEasy_77 rfl ?_
                refine wa_goto (pc' := 82) dX10_isEasy_78 (by decide) ?_
                refine wa_zret dX10_isEasy_82 rfl (by decide) (by decide) (by omega) ?_
                exact zD_i (congrArg (fun x => some (zI x)) (by unfold esI; (repeat' split) <;> omega)) rfl
              · refine wa_iload_n (pc' := 53) dX10_isEasy_52 rfl rfl rfl ?_
                refine wa_iconst (pc' := 54) dX10_isEasy_53 rfl ?_
                refine wa_icmp_ne (tgt := 81) (pc' := 57) dX10_isEasy_54 (by decide) rfl (by omega) (by omega) (fun c54 => ?_) (fun c54 => ?_)
                · refine wa_iconst (pc' := 82) dX10_isEasy_81 rfl ?_
                  refine wa_zret dX10_isEasy_82 rfl (by decide) (by decide) (by omega) ?_
                  exact zD_i (congrArg (fun x => some (zI x)) (by unfold esI; (repeat' split) <;> omega)) rfl
                · refine wa_iload_n (pc' := 58) dX10_isEasy_57 rfl rfl rfl ?_
                  refine wa_if_ne (tgt := 77) (pc' := 61) dX10_isEasy_58 (by decide) rfl (by omega) (fun c58 => ?_) (fun c58 => ?_)
                  · refine wa_iconst (pc' := 78) dX10_isEasy_77 rfl ?_
                    refine wa_goto (pc' := 82) dX10_isEasy_78 (by decide) ?_
                    refine wa_zret dX10_isEasy_82 rfl (by decide) (by decide) (by omega) ?_
                    exact zD_i (congrArg (fun x => some (zI x)) (by unfold esI; (repeat' split) <;> omega)) rfl
                  · refine wa_iload_n (pc' := 62) dX10_isEasy_61 rfl rfl rfl ?_
                    refine wa_if_eq (tgt := 77) (pc' := 65) dX10_isEasy_62 (by decide) rfl (by omega) (fun c62 => ?_) (fun c62 => ?_)
                    · refine wa_iconst (pc' := 78) dX10_isEasy_77 rfl ?_
                      refine wa_goto (pc' := 82) dX10_isEasy_78 (by decide) ?_
                      refine wa_zret dX10_isEasy_82 rfl (by decide) (by decide) (by omega) ?_
                      exact zD_i (congrArg (fun x => some (zI x)) (by unfold esI; (repeat' split) <;> omega)) rfl
                    · refine wa_iload_n (pc' := 66) dX10_isEasy_65 rfl rfl rfl ?_
                      refine wa_bipush (pc' := 68) dX10_isEasy_66 rfl rfl ?_
                      refine wa_icmp_eq (tgt := 77) (pc' := 71) dX10_isEasy_68 (by decide) rfl (by omega) (by omega) (fun c68 => ?_) (fun c68 => ?_)
                      · refine wa_iconst (pc' := 78) dX10_isEasy_77 rfl ?_
                        refine wa_goto (pc' := 82) dX10_isEasy_78 (by decide) ?_
                        refine wa_zret dX10_isEasy_82 rfl (by decide) (by decide) (by omega) ?_
                        exact zD_i (congrArg (fun x => some (zI x)) (by unfold esI; (repeat' split) <;> omega)) rfl
                      · refine wa_iload_n (pc' := 72) dX10_isEasy_71 rfl rfl rfl ?_
                        refine wa_bipush (pc' := 74) dX10_isEasy_72 rfl rfl ?_
                        refine wa_icmp_ne (tgt := 81) (pc' := 77) dX10_isEasy_74 (by decide) rfl (by omega) (by omega) (fun c74 => ?_) (fun c74 => ?_)
                        · refine wa_iconst (pc' := 82) dX10_isEasy_81 rfl ?_
                          refine wa_zret dX10_isEasy_82 rfl (by decide) (by decide) (by omega) ?_
                          exact zD_i (congrArg (fun x => some (zI x)) (by unfold esI; (repeat' split) <;> omega)) rfl
                        · refine wa_iconst (pc' := 78) dX10_isEasy_77 rfl ?_
                          refine wa_goto (pc' := 82) dX10_isEasy_78 (by decide) ?_
                          refine wa_zret dX10_isEasy_82 rfl (by decide) (by decide) (by omega) ?_
                          exact zD_i (congrArg (fun x => some (zI x)) (by unfold esI; (repeat' split) <;> omega)) rfl
      · refine wa_iload_n (pc' := 33) dX10_isEasy_32 rfl rfl rfl ?_
        refine wa_zret dX10_isEasy_33 rfl (by decide) (by decide) (by omega) ?_
        exact zD_i (congrArg (fun x => some (zI x)) (by unfold esI; (repeat' split) <;> omega)) rfl
  · refine wa_iload_n (pc' := 1) dX10_isEasy_0 rfl rfl rfl ?_
    refine wa_bipush (pc' := 3) dX10_isEasy_1 rfl rfl ?_
    refine wa_icmp_eq (tgt := 16) (pc' := 6) dX10_isEasy_3 (by decide) rfl (by omega) (by omega) (fun c3 => ?_) (fun c3 => ?_)
    · refine wa_iconst (pc' := 17) dX10_isEasy_16 rfl ?_
      refine wa_goto (pc' := 21) dX10_isEasy_17 (by decide) ?_
      exact K21 _ (by show _ ∨ _; omega)
    · refine wa_iload_n (pc' := 7) dX10_isEasy_6 rfl rfl rfl ?_
      refine wa_iconst (pc' := 8) dX10_isEasy_7 rfl ?_
      refine wa_icmp_eq (tgt := 16) (pc' := 11) dX10_isEasy_8 (by decide) rfl (by omega) (by omega) (fun c8 => ?_) (fun c8 => ?_)
      · refine wa_iconst (pc' := 17) dX10_isEasy_16 rfl ?_
        refine wa_goto (pc' := 21) dX10_isEasy_17 (by decide) ?_
        exact K21 _ (by show _ ∨ _; omega)
      · refine wa_iload_n (pc' := 12) dX10_isEasy_11 rfl rfl rfl ?_
        refine wa_iconst (pc' := 13) dX10_isEasy_12 rfl ?_
        refine wa_icmp_ne (tgt := 20) (pc' := 16) dX10_isEasy_13 (by decide) rfl (by omega) (by omega) (fun c13 => ?_) (fun c13 => ?_)
        · refine wa_iconst (pc' := 21) dX10_isEasy_20 rfl ?_
          exact K21 _ (by show _ ∨ _; omega)
        · refine wa_iconst (pc' := 17) dX10_isEasy_16 rfl ?_
          refine wa_goto (pc' := 21) dX10_isEasy_17 (by decide) ?_
          exact K21 _ (by show _ ∨ _; omega)

set_option maxRecDepth 10000 in
set_option maxHeartbeats 1000000 in
theorem k_X10_tonesOf (q : Int) (hq : 0 ≤ q ∧ q < 10) : zMet q_X10_tonesOf 0 0 0 [zI q] [] (zD (some (zI (zTones.getD q.toNat 0))) []) := by
  refine z_introF (ls := [(0, _)]) (by decide +kernel) rfl (fun _ _ => rfl) (fun _ _ => Nat.le_of_ble_eq_true rfl) ?_
  have h : q = 0 ∨ q = 1 ∨ q = 2 ∨ q = 3 ∨ q = 4 ∨ q = 5 ∨ q = 6 ∨ q = 7 ∨ q = 8 ∨ q = 9 := by omega
  rcases h with rfl | rfl | rfl | rfl | rfl | rfl | rfl | rfl | rfl | rfl
  · refine wa_iload_n (pc' := 1) dX10_tonesOf_0 rfl rfl rfl ?_
    refine wa_tabIn (tgt := 52) dX10_tonesOf_1 (by decide) (by decide) (by decide) rfl (by decide) ?_
    refine wa_sipush (pc' := 55) dX10_tonesOf_52 rfl rfl ?_
    refine wa_iret dX10_tonesOf_55 rfl (by decide) (by decide) ?_
    exact zD_i rfl rfl
  · refine wa_iload_n (pc' := 1) dX10_tonesOf_0 rfl rfl rfl ?_
    refine wa_tabIn (tgt := 56) dX10_tonesOf_1 (by decide) (by decide) (by decide) rfl (by decide) ?_
    refine wa_sipush (pc' := 59) dX10_tonesOf_56 rfl rfl ?_
    refine wa_iret dX10_tonesOf_59 rfl (by decide) (by decide) ?_
    exact zD_i rfl rfl
  · refine wa_iload_n (pc' := 1) dX10_tonesOf_0 rfl rfl rfl ?_
    refine wa_tabIn (tgt := 60) dX10_tonesOf_1 (by decide) (by decide) (by decide) rfl (by decide) ?_
    refine wa_sipush (pc' := 63) dX10_tonesOf_60 rfl rfl ?_
    refine wa_iret dX10_tonesOf_63 rfl (by decide) (by decide) ?_
    exact zD_i rfl rfl
  · refine wa_iload_n (pc' := 1) dX10_tonesOf_0 rfl rfl rfl ?_
    refine wa_tabIn (tgt := 64) dX10_tonesOf_1 (by decide) (by decide) (by decide) rfl (by decide) ?_
    refine wa_sipush (pc' := 67) dX10_tonesOf_64 rfl rfl ?_
    refine wa_iret dX10_tonesOf_67 rfl (by decide) (by decide) ?_
    exact zD_i rfl rfl
  · refine wa_iload_n (pc' := 1) dX10_tonesOf_0 rfl rfl rfl ?_
    refine wa_tabIn (tgt := 68) dX10_tonesOf_1 (by decide) (by decide) (by decide) rfl (by decide) ?_
    refine wa_sipush (pc' := 71) dX10_tonesOf_68 rfl rfl ?_
    refine wa_iret dX10_tonesOf_71 rfl (by decide) (by decide) ?_
    exact zD_i rfl rfl
  · refine wa_iload_n (pc' := 1) dX10_tonesOf_0 rfl rfl rfl ?_
    refine wa_tabIn (tgt := 72) dX10_tonesOf_1 (by decide) (by decide) (by decide) rfl (by decide) ?_
    refine wa_bipush (pc' := 74) dX10_tonesOf_72 rfl rfl ?_
    refine wa_iret dX10_tonesOf_74 rfl (by decide) (by decide) ?_
    exact zD_i rfl rfl
  · refine wa_iload_n (pc' := 1) dX10_tonesOf_0 rfl rfl rfl ?_
    refine wa_tabIn (tgt := 75) dX10_tonesOf_1 (by decide) (by decide) (by decide) rfl (by decide) ?_
    refine wa_sipush (pc' := 78) dX10_tonesOf_75 rfl rfl ?_
    refine wa_iret dX10_tonesOf_78 rfl (by decide) (by decide) ?_
    exact zD_i rfl rfl
  · refine wa_iload_n (pc' := 1) dX10_tonesOf_0 rfl rfl rfl ?_
    refine wa_tabIn (tgt := 79) dX10_tonesOf_1 (by decide) (by decide) (by decide) rfl (by decide) ?_
    refine wa_sipush (pc' := 82) dX10_tonesOf_79 rfl rfl ?_
    refine wa_iret dX10_tonesOf_82 rfl (by decide) (by decide) ?_
    exact zD_i rfl rfl
  · refine wa_iload_n (pc' := 1) dX10_tonesOf_0 rfl rfl rfl ?_
    refine wa_tabIn (tgt := 83) dX10_tonesOf_1 (by decide) (by decide) (by decide) rfl (by decide) ?_
    refine wa_sipush (pc' := 86) dX10_tonesOf_83 rfl rfl ?_
    refine wa_iret dX10_tonesOf_86 rfl (by decide) (by decide) ?_
    exact zD_i rfl rfl
  · refine wa_iload_n (pc' := 1) dX10_tonesOf_0 rfl rfl rfl ?_
    refine wa_tabOut (tgt := 87) dX10_tonesOf_1 (by decide) (by decide) (by decide) ?_
    refine wa_sipush (pc' := 90) dX10_tonesOf_87 rfl rfl ?_
    refine wa_iret dX10_tonesOf_90 rfl (by decide) (by decide) ?_
    exact zD_i rfl rfl

set_option maxRecDepth 10000 in
set_option maxHeartbeats 1000000 in
theorem l_isInScale (sg pt R : Int) (hs : -10 ≤ sg ∧ sg ≤ 10) (hp : 0 ≤ pt ∧ pt < 12) : ∀ (m : Nat) (p b : Int), p + m = sg + 6 → -20 ≤ p → (b = 0 ∨ b = 1) → isR pt m p b = R → Wa q_X10_isInScale 2 0 0 0 (zD (some (zI R)) []) 6 [(3, zI p), (2, zI b), (0, zI sg), (1, zI pt)] [] [] 0 0 := by
  intro m
  induction m with
  | zero =>
    intro p b hm h0 hb hR
    refine wa_iload_n (pc' := 7) dX10_isInScale_6 rfl rfl rfl ?_
    refine wa_iload_n (pc' := 8) dX10_isInScale_7 rfl rfl rfl ?_
    refine wa_iconst (pc' := 9) dX10_isInScale_8 rfl ?_
    refine wa_iadd (pc' := 10) dX10_isInScale_9 rfl ?_
    refine wa_icmp_gt (tgt := 37) (pc' := 13) dX10_isInScale_10 (by decide) rfl (by omega) (by omega) (fun c10 => ?_) (fun c10 => ?_)
    · refine wa_iload_n (pc' := 38) dX10_isInScale_37 rfl rfl rfl ?_
      refine wa_zret dX10_isInScale_38 rfl (by decide) (by decide) (by omega) ?_
      exact zD_i (by rw [← hR]; rfl) rfl
    · exact absurd c10 (by omega)
  | succ m ih =>
    intro p b hm h0 hb hR
    have hpb := pcl_b p
    refine wa_iload_n (pc' := 7) dX10_isInScale_6 rfl rfl rfl ?_
    refine wa_iload_n (pc' := 8) dX10_isInScale_7 rfl rfl rfl ?_
    refine wa_iconst (pc' := 9) dX10_isInScale_8 rfl ?_
    refine wa_iadd (pc' := 10) dX10_isInScale_9 rfl ?_
    refine wa_icmp_gt (tgt := 37) (pc' := 13) dX10_isInScale_10 (by decide) rfl (by omega) (by omega) (fun c10 => ?_) (fun c10 => ?_)
    · exact absurd c10 (by omega)
    · refine wa_join (J := 30) (P := fun x => x = 1 ∧ (b = 1 ∨ pcl p = pt) ∨ x = 0 ∧ ¬ (b = 1 ∨ pcl p = pt)) (fun x30 e30 => ?_) (fun K30 => ?_)
      · refine wa_istore_n (pc' := 31) (ls' := [(2, _), (3, _), (0, _), (1, _)]) dX10_isInScale_30 rfl rfl (by decide) rfl ?_
        refine wa_iinc (pc' := 34) (ls' := [(3, _), (2, _), (0, _), (1, _)]) dX10_isInScale_31 rfl rfl (by decide) rfl ?_
        refine wa_goto (pc' := 6) dX10_isInScale_34 (by decide) ?_
        exact ih (p + 1) x30 (by omega) (by omega) (by rcases e30 with h | h <;> omega) (by rw [← hR, isR]; congr 1; rcases e30 with ⟨h, h2⟩ | ⟨h, h2⟩ <;> rw [h] <;> first | rw [if_pos h2] | rw [if_neg h2])
      · refine wa_iload_n (pc' := 14) dX10_isInScale_13 rfl rfl rfl ?_
        refine wa_if_ne (tgt := 25) (pc' := 17) dX10_isInScale_14 (by decide) rfl (by omega) (fun c14 => ?_) (fun c14 => ?_)
        · refine wa_iconst (pc' := 26) dX10_isInScale_25 rfl ?_
          refine wa_goto (pc' := 30) dX10_isInScale_26 (by decide) ?_
          exact K30 _ (by show _ ∨ _; omega)
        · refine wa_iload_n (pc' := 18) dX10_isInScale_17 rfl rfl rfl ?_
          refine wa_dS (pc' := 21) (w' := []) (k_X10_pitch p (by omega)) ok_X10_pitch lm_X10_161 dX10_isInScale_18 rfl [] rfl (by decide) rfl rfl (by decide) (Nat.le_of_ble_eq_true rfl) rfl (by decide) (by decide) rfl rfl rfl ?_
          refine wa_iload_n (pc' := 22) dX10_isInScale_21 rfl rfl rfl ?_
          refine wa_icmp_ne (tgt := 29) (pc' := 25) dX10_isInScale_22 (by decide) rfl (by omega) (by omega) (fun c22 => ?_) (fun c22 => ?_)
          · refine wa_iconst (pc' := 30) dX10_isInScale_29 rfl ?_
            exact K30 _ (by show _ ∨ _; omega)
          · refine wa_iconst (pc' := 26) dX10_isInScale_25 rfl ?_
            refine wa_goto (pc' := 30) dX10_isInScale_26 (by decide) ?_
            exact K30 _ (by show _ ∨ _; omega)

set_option maxRecDepth 10000 in
set_option maxHeartbeats 1000000 in
theorem k_X10_isInScale (sg : Int) (pt : Int) (hs : -10 ≤ sg ∧ sg ≤ 10) (hp : 0 ≤ pt ∧ pt < 12) : zMet q_X10_isInScale 2 0 0 [zI sg, zI pt] [] (zD (some (zI (inS sg pt))) []) := by
  refine z_introF (ls := [(0, _), (1, _)]) (by decide +kernel) rfl (fun _ _ => rfl) (fun _ _ => Nat.le_of_ble_eq_true rfl) ?_
  refine wa_iconst (pc' := 1) dX10_isInScale_0 rfl ?_
  refine wa_istore_n (pc' := 2) (ls' := [(2, _), (0, _), (1, _)]) dX10_isInScale_1 rfl rfl (by decide) rfl ?_
  refine wa_iload_n (pc' := 3) dX10_isInScale_2 rfl rfl rfl ?_
  refine wa_iconst (pc' := 4) dX10_isInScale_3 rfl ?_
  refine wa_isub (pc' := 5) dX10_isInScale_4 rfl ?_
  refine wa_istore_n (pc' := 6) (ls' := [(3, _), (2, _), (0, _), (1, _)]) dX10_isInScale_5 rfl rfl (by decide) rfl ?_
  exact l_isInScale sg pt _ hs hp 7 (sg - 1) 0 (by omega) (by omega) (Or.inl rfl) (isR_e hs hp)

set_option maxRecDepth 10000 in
set_option maxHeartbeats 1000000 in
theorem k_X10_isKey (p b : Int) (hp : zin p) (hb : b = 0 ∨ b = 1) : zMet q_X10_isKey 1 0 0 [zI p, zI b] [] (zD (some (zI (if -6 ≤ p - 3 * b ∧ p - 3 * b ≤ 6 then 1 else 0))) []) := by
  refine z_introF (ls := [(0, _), (1, _)]) (by decide +kernel) rfl (fun _ _ => rfl) (fun _ _ => Nat.le_of_ble_eq_true rfl) ?_
  by_cases h9 : -2147483645 ≤ p
  · refine wa_iload_n (pc' := 1) dX10_isKey_0 rfl rfl rfl ?_
    refine wa_if_eq (tgt := 10) (pc' := 4) dX10_isKey_1 (by decide) rfl (by omega) (fun c1 => ?_) (fun c1 => ?_)
    · refine wa_iload_n (pc' := 11) dX10_isKey_10 rfl rfl rfl ?_
      refine wa_bipush (pc' := 13) dX10_isKey_11 rfl rfl ?_
      refine wa_bipush (pc' := 15) dX10_isKey_13 rfl rfl ?_
      refine wa_dS (pc' := 18) (w' := []) (k_X10_in _ _ _ (by omega) (by omega) (by omega) ) ok_X10_in lm_X10_97 dX10_isKey_15 rfl [] rfl (by decide) rfl rfl (by decide) (Nat.le_of_ble_eq_true rfl) rfl (by decide) (by decide) rfl rfl rfl ?_
      refine wa_zret dX10_isKey_18 rfl (by decide) (by decide) (by split <;> omega) ?_
      exact zD_i (congrArg (fun x => some (zI x)) (by (repeat' split) <;> omega)) rfl
    · refine wa_iload_n (pc' := 5) dX10_isKey_4 rfl rfl rfl ?_
      refine wa_iconst (pc' := 6) dX10_isKey_5 rfl ?_
      refine wa_isub (pc' := 7) dX10_isKey_6 rfl ?_
      refine wa_goto (pc' := 11) dX10_isKey_7 (by decide) ?_
      refine wa_bipush (pc' := 13) dX10_isKey_11 rfl rfl ?_
      refine wa_bipush (pc' := 15) dX10_isKey_13 rfl rfl ?_
      refine wa_dS (pc' := 18) (w' := []) (k_X10_in _ _ _ (by omega) (by omega) (by omega) ) ok_X10_in lm_X10_97 dX10_isKey_15 rfl [] rfl (by decide) rfl rfl (by decide) (Nat.le_of_ble_eq_true rfl) rfl (by decide) (by decide) rfl rfl rfl ?_
      refine wa_zret dX10_isKey_18 rfl (by decide) (by decide) (by split <;> omega) ?_
      exact zD_i (congrArg (fun x => some (zI x)) (by (repeat' split) <;> omega)) rfl
  · refine wa_iload_n (pc' := 1) dX10_isKey_0 rfl rfl rfl ?_
    refine wa_if_eq (tgt := 10) (pc' := 4) dX10_isKey_1 (by decide) rfl (by omega) (fun c1 => ?_) (fun c1 => ?_)
    · refine wa_iload_n (pc' := 11) dX10_isKey_10 rfl rfl rfl ?_
      try refine wa_wrap (zwrap (p - 3)) ?_
      refine wa_bipush (pc' := 13) dX10_isKey_11 rfl rfl ?_
      refine wa_bipush (pc' := 15) dX10_isKey_13 rfl rfl ?_
      refine wa_dS (pc' := 18) (w' := []) (k_X10_in _ _ _ (by omega) (by omega) (by omega) ) ok_X10_in lm_X10_97 dX10_isKey_15 rfl [] rfl (by decide) rfl rfl (by decide) (Nat.le_of_ble_eq_true rfl) rfl (by decide) (by decide) rfl rfl rfl ?_
      refine wa_zret dX10_isKey_18 rfl (by decide) (by decide) (by split <;> omega) ?_
      exact zD_i (congrArg (fun x => some (zI x)) (by (repeat' split) <;> omega)) rfl
    · refine wa_iload_n (pc' := 5) dX10_isKey_4 rfl rfl rfl ?_
      refine wa_iconst (pc' := 6) dX10_isKey_5 rfl ?_
      refine wa_isub (pc' := 7) dX10_isKey_6 rfl ?_
      refine wa_goto (pc' := 11) dX10_isKey_7 (by decide) ?_
      try refine wa_wrap (zwrap (p - 3)) ?_
      refine wa_bipush (pc' := 13) dX10_isKey_11 rfl rfl ?_
      refine wa_bipush (pc' := 15) dX10_isKey_13 rfl rfl ?_
      refine wa_dS (pc' := 18) (w' := []) (k_X10_in _ _ _ (by omega) (by omega) (by omega) ) ok_X10_in lm_X10_97 dX10_isKey_15 rfl [] rfl (by decide) rfl rfl (by decide) (Nat.le_of_ble_eq_true rfl) rfl (by decide) (by decide) rfl rfl rfl ?_
      refine wa_zret dX10_isKey_18 rfl (by decide) (by decide) (by split <;> omega) ?_
      exact zD_i (congrArg (fun x => some (zI x)) (by (repeat' split) <;> omega)) rfl

set_option maxRecDepth 10000 in
set_option maxHeartbeats 1000000 in
theorem k_X10_thrown (v pa : Int → Int) (sn : Int) (tx : Int → Int) (ty si fl wi th ap nt rr rq rb wh : Int) (md na : Int → Int) (nd : Int) (up lo : Int → Int) (us lw : Int)   : zMet q_X10_thrown 0 0 0 [zR 0] (wM v pa sn tx ty si fl wi th ap nt rr rq rb wh md na nd up lo us lw) (zD (some (zI (th))) (wM v pa sn tx ty si fl wi th ap nt rr rq rb wh md na nd up lo us lw)) := by
  refine z_introF (ls := [(0, _)]) (by decide +kernel) rfl (fun _ _ => rfl) (fun _ _ => Nat.le_of_ble_eq_true rfl) ?_
  refine wa_aload_n (pc' := 1) dX10_thrown_0 rfl rfl rfl ?_
  refine wa_getfield (pc' := 4) (j := 8) zc_X10 lk_X10_46 dX10_thrown_1 rfl (by decide) rfl rfl ?_
  refine wa_iret dX10_thrown_4 rfl (by decide) (by decide) ?_
  first | exact zD_i rfl rfl | exact zD_i (by rw [if_pos (by omega)]) rfl | exact zD_i (by rw [if_neg (by omega)]) rfl

set_option maxRecDepth 10000 in
set_option maxHeartbeats 1000000 in
theorem k_X10_fails (v pa : Int → Int) (sn : Int) (tx : Int → Int) (ty si fl wi th ap nt rr rq rb wh : Int) (md na : Int → Int) (nd : Int) (up lo : Int → Int) (us lw : Int) (c : Int)  : zMet q_X10_fails 0 0 0 [zR 0, zI c] (wM v pa sn tx ty si fl wi th ap nt rr rq rb wh md na nd up lo us lw) (zD (some (zI (0))) (wM v pa sn tx ty si fl wi c ap nt rr rq rb wh md na nd up lo us lw)) := by
  refine z_introF (ls := [(0, _), (1, _)]) (by decide +kernel) rfl (fun _ _ => rfl) (fun _ _ => Nat.le_of_ble_eq_true rfl) ?_
  refine wa_aload_n (pc' := 1) dX10_fails_0 rfl rfl rfl ?_
  refine wa_iload_n (pc' := 2) dX10_fails_1 rfl rfl rfl ?_
  refine wa_putfield (pc' := 5) (j := 8) (w' := [zO _ [_, _, _, _, _, _, _, _, _, _, _, _, _, _, _, _, _, _, _, _, _, _, _, _], _, _, _, _, _, _, _, _, _]) zc_X10 lk_X10_46 dX10_fails_2 rfl (by decide) rfl rfl (Nat.le_of_ble_eq_true rfl) True.intro rfl ?_
  refine wa_iconst (pc' := 6) dX10_fails_5 rfl ?_
  refine wa_iret dX10_fails_6 rfl (by decide) (by decide) ?_
  first | exact zD_i rfl rfl | exact zD_i (by rw [if_pos (by omega)]) rfl | exact zD_i (by rw [if_neg (by omega)]) rfl

set_option maxRecDepth 10000 in
set_option maxHeartbeats 1000000 in
theorem k_X10_signatureNow (s : zSh) (v pa : Int → Int) (sn : Int) (tx : Int → Int) (ty si fl wi th ap nt rr rq rb wh : Int) (md na : Int → Int) (nd : Int) (up lo : Int → Int) (us lw : Int)  (hs : okW s) (hv : Vr s v)  : zMet q_X10_signatureNow 0 0 0 [zR 0] (wM v pa sn tx ty si fl wi th ap nt rr rq rb wh md na nd up lo us lw) (zD (some (zI (s.2.2.2.2.2.1))) (wM v pa sn tx ty si fl wi th ap nt rr rq rb wh md na nd up lo us lw)) := by
  refine z_introF (ls := [(0, _)]) (by decide +kernel) rfl (fun _ _ => rfl) (fun _ _ => Nat.le_of_ble_eq_true rfl) ?_
  obtain ⟨v0, v1, v2, v3, vT, vF, vL⟩ := id hv
  have hz := hs.1
  obtain ⟨z1, z2, zT1, z4, zF1, zL1⟩ := id hz.1
  have zNm := hz.2.1
  have zg := hz.2.2.1
  have zm := hz.2.2.2.1
  have zln := hz.2.2.2.2
  have vS := Vr_sg hv zm
  have zQ1 := fun i h1 h2 => (zNm i h1 h2).2.1
  refine wa_aload_n (pc' := 1) dX10_signatureNow_0 rfl rfl rfl ?_
  refine wa_getfield (pc' := 4) (j := 0) zc_X10 lk_X10_7 dX10_signatureNow_1 rfl (by decide) rfl rfl ?_
  refine wa_iconst (pc' := 5) dX10_signatureNow_4 rfl ?_
  refine wa_iaload (pc' := 6) dX10_signatureNow_5 rfl rfl (by omega) (by omega) (by decide) ?_
  refine wa_iconst (pc' := 7) dX10_signatureNow_6 rfl ?_
  refine wa_aload_n (pc' := 8) dX10_signatureNow_7 rfl rfl rfl ?_
  refine wa_getfield (pc' := 11) (j := 0) zc_X10 lk_X10_7 dX10_signatureNow_8 rfl (by decide) rfl rfl ?_
  refine wa_iconst (pc' := 12) dX10_signatureNow_11 rfl ?_
  refine wa_iaload (pc' := 13) dX10_signatureNow_12 rfl rfl (by omega) (by omega) (by decide) ?_
  refine wa_imul (pc' := 14) dX10_signatureNow_13 rfl ?_
  refine wa_isub (pc' := 15) dX10_signatureNow_14 rfl ?_
  refine wa_iret dX10_signatureNow_15 rfl (by decide) (by decide) ?_
  exact zD_i (congrArg (fun x => some (zI x)) vS) rfl

set_option maxRecDepth 10000 in
set_option maxHeartbeats 1000000 in
theorem k_X10_isLine (s : zSh) (v pa : Int → Int) (sn : Int) (tx : Int → Int) (ty si fl wi th ap nt rr rq rb wh : Int) (md na : Int → Int) (nd : Int) (up lo : Int → Int) (us lw : Int) (l : Int) (hs : okW s) (hv : Vr s v) (hl : zin l) : zMet q_X10_isLine 1 0 0 [zR 0, zI l] (wM v pa sn tx ty si fl wi th ap nt rr rq rb wh md na nd up lo us lw) (zD (some (zI (if 0 ≤ l ∧ l < s.2.2.2.1 then 1 else 0))) (wM v pa sn tx ty si fl wi th ap nt rr rq rb wh md na nd up lo us lw)) := by
  refine z_introF (ls := [(0, _), (1, _)]) (by decide +kernel) rfl (fun _ _ => rfl) (fun _ _ => Nat.le_of_ble_eq_true rfl) ?_
  obtain ⟨v0, v1, v2, v3, vT, vF, vL⟩ := id hv
  have hz := hs.1
  obtain ⟨z1, z2, zT1, z4, zF1, zL1⟩ := id hz.1
  have zNm := hz.2.1
  have zg := hz.2.2.1
  have zm := hz.2.2.2.1
  have zln := hz.2.2.2.2
  have vS := Vr_sg hv zm
  have zQ1 := fun i h1 h2 => (zNm i h1 h2).2.1
  refine wa_iload_n (pc' := 1) dX10_isLine_0 rfl rfl rfl ?_
  refine wa_iconst (pc' := 2) dX10_isLine_1 rfl ?_
  refine wa_aload_n (pc' := 3) dX10_isLine_2 rfl rfl rfl ?_
  refine wa_getfield (pc' := 6) (j := 0) zc_X10 lk_X10_7 dX10_isLine_3 rfl (by decide) rfl rfl ?_
  refine wa_iconst (pc' := 7) dX10_isLine_6 rfl ?_
  refine wa_iaload (pc' := 8) dX10_isLine_7 rfl rfl (by omega) (by omega) (by decide) ?_
  refine wa_iconst (pc' := 9) dX10_isLine_8 rfl ?_
  refine wa_isub (pc' := 10) dX10_isLine_9 rfl ?_
  refine wa_dS (pc' := 13) (w' := [_, _, _, _, _, _, _, _, _, _]) (k_X10_in _ _ _ (by omega) (by omega) (by omega) ) ok_X10_in lm_X10_97 dX10_isLine_10 rfl [] rfl (by decide) rfl rfl (by decide) (Nat.le_of_ble_eq_true rfl) rfl (by decide) (by decide) rfl rfl rfl ?_
  refine wa_zret dX10_isLine_13 rfl (by decide) (by decide) (by split <;> omega) ?_
  exact zD_i (congrArg (fun x => some (zI x)) (by skip; (repeat' split) <;> omega)) rfl

set_option maxRecDepth 10000 in
set_option maxHeartbeats 1000000 in
theorem k_X10_isChord (s : zSh) (v pa : Int → Int) (sn : Int) (tx : Int → Int) (ty si fl wi th ap nt rr rq rb wh : Int) (md na : Int → Int) (nd : Int) (up lo : Int → Int) (us lw : Int) (i : Int) (hs : okW s) (hv : Vr s v) (hi : zin i) : zMet q_X10_isChord 1 0 0 [zR 0, zI i] (wM v pa sn tx ty si fl wi th ap nt rr rq rb wh md na nd up lo us lw) (zD (some (zI (if 0 ≤ i ∧ i < s.2.2.2.2.1 then 1 else 0))) (wM v pa sn tx ty si fl wi th ap nt rr rq rb wh md na nd up lo us lw)) := by
  refine z_introF (ls := [(0, _), (1, _)]) (by decide +kernel) rfl (fun _ _ => rfl) (fun _ _ => Nat.le_of_ble_eq_true rfl) ?_
  obtain ⟨v0, v1, v2, v3, vT, vF, vL⟩ := id hv
  have hz := hs.1
  obtain ⟨z1, z2, zT1, z4, zF1, zL1⟩ := id hz.1
  have zNm := hz.2.1
  have zg := hz.2.2.1
  have zm := hz.2.2.2.1
  have zln := hz.2.2.2.2
  have vS := Vr_sg hv zm
  have zQ1 := fun i h1 h2 => (zNm i h1 h2).2.1
  refine wa_iload_n (pc' := 1) dX10_isChord_0 rfl rfl rfl ?_
  refine wa_iconst (pc' := 2) dX10_isChord_1 rfl ?_
  refine wa_aload_n (pc' := 3) dX10_isChord_2 rfl rfl rfl ?_
  refine wa_getfield (pc' := 6) (j := 0) zc_X10 lk_X10_7 dX10_isChord_3 rfl (by decide) rfl rfl ?_
  refine wa_iconst (pc' := 7) dX10_isChord_6 rfl ?_
  refine wa_iaload (pc' := 8) dX10_isChord_7 rfl rfl (by omega) (by omega) (by decide) ?_
  refine wa_iconst (pc' := 9) dX10_isChord_8 rfl ?_
  refine wa_isub (pc' := 10) dX10_isChord_9 rfl ?_
  refine wa_dS (pc' := 13) (w' := [_, _, _, _, _, _, _, _, _, _]) (k_X10_in _ _ _ (by omega) (by omega) (by omega) ) ok_X10_in lm_X10_97 dX10_isChord_10 rfl [] rfl (by decide) rfl rfl (by decide) (Nat.le_of_ble_eq_true rfl) rfl (by decide) (by decide) rfl rfl rfl ?_
  refine wa_zret dX10_isChord_13 rfl (by decide) (by decide) (by split <;> omega) ?_
  exact zD_i (congrArg (fun x => some (zI x)) (by skip; (repeat' split) <;> omega)) rfl

set_option maxRecDepth 10000 in
set_option maxHeartbeats 1000000 in
theorem k_X10_lengthOf (s : zSh) (v pa : Int → Int) (sn : Int) (tx : Int → Int) (ty si fl wi th ap nt rr rq rb wh : Int) (md na : Int → Int) (nd : Int) (up lo : Int → Int) (us lw : Int) (l : Int) (hs : okW s) (hv : Vr s v) (hl : 0 ≤ l ∧ l < s.2.2.2.1) : zMet q_X10_lengthOf 0 0 0 [zR 0, zI l] (wM v pa sn tx ty si fl wi th ap nt rr rq rb wh md na nd up lo us lw) (zD (some (zI (s.2.1 (l + 1) - s.2.1 l))) (wM v pa sn tx ty si fl wi th ap nt rr rq rb wh md na nd up lo us lw)) := by
  refine z_introF (ls := [(0, _), (1, _)]) (by decide +kernel) rfl (fun _ _ => rfl) (fun _ _ => Nat.le_of_ble_eq_true rfl) ?_
  obtain ⟨v0, v1, v2, v3, vT, vF, vL⟩ := id hv
  have hz := hs.1
  obtain ⟨z1, z2, zT1, z4, zF1, zL1⟩ := id hz.1
  have zNm := hz.2.1
  have zg := hz.2.2.1
  have zm := hz.2.2.2.1
  have zln := hz.2.2.2.2
  have vS := Vr_sg hv zm
  have zQ1 := fun i h1 h2 => (zNm i h1 h2).2.1
  have e1 := Vr_T hv (k := l) (by omega)
  have e2 := Vr_T1 hv (k := l) hl
  refine wa_aload_n (pc' := 1) dX10_lengthOf_0 rfl rfl rfl ?_
  refine wa_getfield (pc' := 4) (j := 0) zc_X10 lk_X10_7 dX10_lengthOf_1 rfl (by decide) rfl rfl ?_
  refine wa_iconst (pc' := 5) dX10_lengthOf_4 rfl ?_
  refine wa_iload_n (pc' := 6) dX10_lengthOf_5 rfl rfl rfl ?_
  refine wa_iadd (pc' := 7) dX10_lengthOf_6 rfl ?_
  refine wa_iconst (pc' := 8) dX10_lengthOf_7 rfl ?_
  refine wa_iadd (pc' := 9) dX10_lengthOf_8 rfl ?_
  refine wa_iaload (pc' := 10) dX10_lengthOf_9 rfl rfl (by omega) (by omega) (by decide) ?_
  refine wa_aload_n (pc' := 11) dX10_lengthOf_10 rfl rfl rfl ?_
  refine wa_getfield (pc' := 14) (j := 0) zc_X10 lk_X10_7 dX10_lengthOf_11 rfl (by decide) rfl rfl ?_
  refine wa_iconst (pc' := 15) dX10_lengthOf_14 rfl ?_
  refine wa_iload_n (pc' := 16) dX10_lengthOf_15 rfl rfl rfl ?_
  refine wa_iadd (pc' := 17) dX10_lengthOf_16 rfl ?_
  refine wa_iaload (pc' := 18) dX10_lengthOf_17 rfl rfl (by omega) (by omega) (by decide) ?_
  refine wa_isub (pc' := 19) dX10_lengthOf_18 rfl ?_
  refine wa_iret dX10_lengthOf_19 rfl (by decide) (by decide) ?_
  exact zD_i (by rw [e1, e2]) rfl

set_option maxRecDepth 10000 in
set_option maxHeartbeats 1000000 in
theorem k_X10_lyricAt (s : zSh) (v pa : Int → Int) (sn : Int) (tx : Int → Int) (ty si fl wi th ap nt rr rq rb wh : Int) (md na : Int → Int) (nd : Int) (up lo : Int → Int) (us lw : Int) (l : Int) (k : Int) (hs : okW s) (hv : Vr s v) (hl : 0 ≤ l ∧ l < s.2.2.2.1) (hk : 0 ≤ k ∧ k < s.2.1 (l + 1) - s.2.1 l) : zMet q_X10_lyricAt 0 0 0 [zR 0, zI l, zI k] (wM v pa sn tx ty si fl wi th ap nt rr rq rb wh md na nd up lo us lw) (zD (some (zI (ltr s.1 s.2.1 l k))) (wM v pa sn tx ty si fl wi th ap nt rr rq rb wh md na nd up lo us lw)) := by
  refine z_introF (ls := [(0, _), (1, _), (2, _)]) (by decide +kernel) rfl (fun _ _ => rfl) (fun _ _ => Nat.le_of_ble_eq_true rfl) ?_
  obtain ⟨v0, v1, v2, v3, vT, vF, vL⟩ := id hv
  have hz := hs.1
  obtain ⟨z1, z2, zT1, z4, zF1, zL1⟩ := id hz.1
  have zNm := hz.2.1
  have zg := hz.2.2.1
  have zm := hz.2.2.2.1
  have zln := hz.2.2.2.2
  have vS := Vr_sg hv zm
  have zQ1 := fun i h1 h2 => (zNm i h1 h2).2.1
  have e1 := Vr_T hv (k := l) (by omega)
  have e2 := Vr_L hv hs hl hk
  have e3 := zT1 l (by omega) (by omega)
  have e4 := zT1 (l + 1) (by omega) (by omega)
  refine wa_aload_n (pc' := 1) dX10_lyricAt_0 rfl rfl rfl ?_
  refine wa_getfield (pc' := 4) (j := 0) zc_X10 lk_X10_7 dX10_lyricAt_1 rfl (by decide) rfl rfl ?_
  refine wa_sipush (pc' := 7) dX10_lyricAt_4 rfl rfl ?_
  refine wa_aload_n (pc' := 8) dX10_lyricAt_7 rfl rfl rfl ?_
  refine wa_getfield (pc' := 11) (j := 0) zc_X10 lk_X10_7 dX10_lyricAt_8 rfl (by decide) rfl rfl ?_
  refine wa_iconst (pc' := 12) dX10_lyricAt_11 rfl ?_
  refine wa_iload_n (pc' := 13) dX10_lyricAt_12 rfl rfl rfl ?_
  refine wa_iadd (pc' := 14) dX10_lyricAt_13 rfl ?_
  refine wa_iaload (pc' := 15) dX10_lyricAt_14 rfl rfl (by omega) (by omega) (by decide) ?_
  refine wa_iadd (pc' := 16) dX10_lyricAt_15 rfl ?_
  refine wa_iload_n (pc' := 17) dX10_lyricAt_16 rfl rfl rfl ?_
  refine wa_iadd (pc' := 18) dX10_lyricAt_17 rfl ?_
  refine wa_iaload (pc' := 19) dX10_lyricAt_18 rfl rfl (by rw [e1]; omega) (by rw [e1]; omega) (by decide) ?_
  refine wa_iret dX10_lyricAt_19 rfl (by decide) (by decide) ?_
  exact zD_i (by rw [e1, e2]) rfl

set_option maxRecDepth 10000 in
set_option maxHeartbeats 1000000 in
theorem k_X10_lines (s : zSh) (v pa : Int → Int) (sn : Int) (tx : Int → Int) (ty si fl wi th ap nt rr rq rb wh : Int) (md na : Int → Int) (nd : Int) (up lo : Int → Int) (us lw : Int)  (hs : okW s) (hv : Vr s v)  : zMet q_X10_lines 0 0 0 [zR 0] (wM v pa sn tx ty si fl wi th ap nt rr rq rb wh md na nd up lo us lw) (zD (some (zI (s.2.2.2.1))) (wM v pa sn tx ty si fl wi 0 ap nt rr rq rb wh md na nd up lo us lw)) := by
  refine z_introF (ls := [(0, _)]) (by decide +kernel) rfl (fun _ _ => rfl) (fun _ _ => Nat.le_of_ble_eq_true rfl) ?_
  obtain ⟨v0, v1, v2, v3, vT, vF, vL⟩ := id hv
  have hz := hs.1
  obtain ⟨z1, z2, zT1, z4, zF1, zL1⟩ := id hz.1
  have zNm := hz.2.1
  have zg := hz.2.2.1
  have zm := hz.2.2.2.1
  have zln := hz.2.2.2.2
  have vS := Vr_sg hv zm
  have zQ1 := fun i h1 h2 => (zNm i h1 h2).2.1
  refine wa_aload_n (pc' := 1) dX10_lines_0 rfl rfl rfl ?_
  refine wa_iconst (pc' := 2) dX10_lines_1 rfl ?_
  refine wa_putfield (pc' := 5) (j := 8) (w' := [zO _ [_, _, _, _, _, _, _, _, _, _, _, _, _, _, _, _, _, _, _, _, _, _, _, _], _, _, _, _, _, _, _, _, _]) zc_X10 lk_X10_46 dX10_lines_2 rfl (by decide) rfl rfl (Nat.le_of_ble_eq_true rfl) True.intro rfl ?_
  refine wa_aload_n (pc' := 6) dX10_lines_5 rfl rfl rfl ?_
  refine wa_getfield (pc' := 9) (j := 0) zc_X10 lk_X10_7 dX10_lines_6 rfl (by decide) rfl rfl ?_
  refine wa_iconst (pc' := 10) dX10_lines_9 rfl ?_
  refine wa_iaload (pc' := 11) dX10_lines_10 rfl rfl (by omega) (by omega) (by decide) ?_
  refine wa_iret dX10_lines_11 rfl (by decide) (by decide) ?_
  exact zD_i (by rw [v0]) rfl

set_option maxRecDepth 10000 in
set_option maxHeartbeats 1000000 in
theorem k_X10_chords (s : zSh) (v pa : Int → Int) (sn : Int) (tx : Int → Int) (ty si fl wi th ap nt rr rq rb wh : Int) (md na : Int → Int) (nd : Int) (up lo : Int → Int) (us lw : Int)  (hs : okW s) (hv : Vr s v)  : zMet q_X10_chords 0 0 0 [zR 0] (wM v pa sn tx ty si fl wi th ap nt rr rq rb wh md na nd up lo us lw) (zD (some (zI (s.2.2.2.2.1))) (wM v pa sn tx ty si fl wi 0 ap nt rr rq rb wh md na nd up lo us lw)) := by
  refine z_introF (ls := [(0, _)]) (by decide +kernel) rfl (fun _ _ => rfl) (fun _ _ => Nat.le_of_ble_eq_true rfl) ?_
  obtain ⟨v0, v1, v2, v3, vT, vF, vL⟩ := id hv
  have hz := hs.1
  obtain ⟨z1, z2, zT1, z4, zF1, zL1⟩ := id hz.1
  have zNm := hz.2.1
  have zg := hz.2.2.1
  have zm := hz.2.2.2.1
  have zln := hz.2.2.2.2
  have vS := Vr_sg hv zm
  have zQ1 := fun i h1 h2 => (zNm i h1 h2).2.1
  refine wa_aload_n (pc' := 1) dX10_chords_0 rfl rfl rfl ?_
  refine wa_iconst (pc' := 2) dX10_chords_1 rfl ?_
  refine wa_putfield (pc' := 5) (j := 8) (w' := [zO _ [_, _, _, _, _, _, _, _, _, _, _, _, _, _, _, _, _, _, _, _, _, _, _, _], _, _, _, _, _, _, _, _, _]) zc_X10 lk_X10_46 dX10_chords_2 rfl (by decide) rfl rfl (Nat.le_of_ble_eq_true rfl) True.intro rfl ?_
  refine wa_aload_n (pc' := 6) dX10_chords_5 rfl rfl rfl ?_
  refine wa_getfield (pc' := 9) (j := 0) zc_X10 lk_X10_7 dX10_chords_6 rfl (by decide) rfl rfl ?_
  refine wa_iconst (pc' := 10) dX10_chords_9 rfl ?_
  refine wa_iaload (pc' := 11) dX10_chords_10 rfl rfl (by omega) (by omega) (by decide) ?_
  refine wa_iret dX10_chords_11 rfl (by decide) (by decide) ?_
  exact zD_i (by rw [v1]) rfl

set_option maxRecDepth 10000 in
set_option maxHeartbeats 1000000 in
theorem k_X10_tonic (s : zSh) (v pa : Int → Int) (sn : Int) (tx : Int → Int) (ty si fl wi th ap nt rr rq rb wh : Int) (md na : Int → Int) (nd : Int) (up lo : Int → Int) (us lw : Int)  (hs : okW s) (hv : Vr s v)  : zMet q_X10_tonic 0 0 0 [zR 0] (wM v pa sn tx ty si fl wi th ap nt rr rq rb wh md na nd up lo us lw) (zD (some (zI (tonO s.2.2.2.2.2.1 s.2.2.2.2.2.2))) (wM v pa sn tx ty si fl wi 0 ap nt rr rq rb wh md na nd up lo us lw)) := by
  refine z_introF (ls := [(0, _)]) (by decide +kernel) rfl (fun _ _ => rfl) (fun _ _ => Nat.le_of_ble_eq_true rfl) ?_
  obtain ⟨v0, v1, v2, v3, vT, vF, vL⟩ := id hv
  have hz := hs.1
  obtain ⟨z1, z2, zT1, z4, zF1, zL1⟩ := id hz.1
  have zNm := hz.2.1
  have zg := hz.2.2.1
  have zm := hz.2.2.2.1
  have zln := hz.2.2.2.2
  have vS := Vr_sg hv zm
  have zQ1 := fun i h1 h2 => (zNm i h1 h2).2.1
  refine wa_aload_n (pc' := 1) dX10_tonic_0 rfl rfl rfl ?_
  refine wa_iconst (pc' := 2) dX10_tonic_1 rfl ?_
  refine wa_putfield (pc' := 5) (j := 8) (w' := [zO _ [_, _, _, _, _, _, _, _, _, _, _, _, _, _, _, _, _, _, _, _, _, _, _, _], _, _, _, _, _, _, _, _, _]) zc_X10 lk_X10_46 dX10_tonic_2 rfl (by decide) rfl rfl (Nat.le_of_ble_eq_true rfl) True.intro rfl ?_
  refine wa_aload_n (pc' := 6) dX10_tonic_5 rfl rfl rfl ?_
  refine wa_getfield (pc' := 9) (j := 0) zc_X10 lk_X10_7 dX10_tonic_6 rfl (by decide) rfl rfl ?_
  refine wa_iconst (pc' := 10) dX10_tonic_9 rfl ?_
  refine wa_iaload (pc' := 11) dX10_tonic_10 rfl rfl (by omega) (by omega) (by decide) ?_
  refine wa_iret dX10_tonic_11 rfl (by decide) (by decide) ?_
  exact zD_i (by rw [v2]) rfl

set_option maxRecDepth 10000 in
set_option maxHeartbeats 1000000 in
theorem k_X10_isMinor (s : zSh) (v pa : Int → Int) (sn : Int) (tx : Int → Int) (ty si fl wi th ap nt rr rq rb wh : Int) (md na : Int → Int) (nd : Int) (up lo : Int → Int) (us lw : Int)  (hs : okW s) (hv : Vr s v)  : zMet q_X10_isMinor 0 0 0 [zR 0] (wM v pa sn tx ty si fl wi th ap nt rr rq rb wh md na nd up lo us lw) (zD (some (zI (s.2.2.2.2.2.2))) (wM v pa sn tx ty si fl wi 0 ap nt rr rq rb wh md na nd up lo us lw)) := by
  refine z_introF (ls := [(0, _)]) (by decide +kernel) rfl (fun _ _ => rfl) (fun _ _ => Nat.le_of_ble_eq_true rfl) ?_
  obtain ⟨v0, v1, v2, v3, vT, vF, vL⟩ := id hv
  have hz := hs.1
  obtain ⟨z1, z2, zT1, z4, zF1, zL1⟩ := id hz.1
  have zNm := hz.2.1
  have zg := hz.2.2.1
  have zm := hz.2.2.2.1
  have zln := hz.2.2.2.2
  have vS := Vr_sg hv zm
  have zQ1 := fun i h1 h2 => (zNm i h1 h2).2.1
  refine wa_aload_n (pc' := 1) dX10_isMinor_0 rfl rfl rfl ?_
  refine wa_iconst (pc' := 2) dX10_isMinor_1 rfl ?_
  refine wa_putfield (pc' := 5) (j := 8) (w' := [zO _ [_, _, _, _, _, _, _, _, _, _, _, _, _, _, _, _, _, _, _, _, _, _, _, _], _, _, _, _, _, _, _, _, _]) zc_X10 lk_X10_46 dX10_isMinor_2 rfl (by decide) rfl rfl (Nat.le_of_ble_eq_true rfl) True.intro rfl ?_
  refine wa_aload_n (pc' := 6) dX10_isMinor_5 rfl rfl rfl ?_
  refine wa_getfield (pc' := 9) (j := 0) zc_X10 lk_X10_7 dX10_isMinor_6 rfl (by decide) rfl rfl ?_
  refine wa_iconst (pc' := 10) dX10_isMinor_9 rfl ?_
  refine wa_iaload (pc' := 11) dX10_isMinor_10 rfl rfl (by omega) (by omega) (by decide) ?_
  refine wa_iconst (pc' := 12) dX10_isMinor_11 rfl ?_
  refine wa_icmp_ne (tgt := 19) (pc' := 15) dX10_isMinor_12 (by decide) rfl (by omega) (by omega) (fun c12 => ?_) (fun c12 => ?_)
  · refine wa_iconst (pc' := 20) dX10_isMinor_19 rfl ?_
    refine wa_zret dX10_isMinor_20 rfl (by decide) (by decide) (by omega) ?_
    exact zD_i (congrArg (fun x => some (zI x)) (by omega)) rfl
  · refine wa_iconst (pc' := 16) dX10_isMinor_15 rfl ?_
    refine wa_goto (pc' := 20) dX10_isMinor_16 (by decide) ?_
    refine wa_zret dX10_isMinor_20 rfl (by decide) (by decide) (by omega) ?_
    exact zD_i (congrArg (fun x => some (zI x)) (by omega)) rfl

set_option maxRecDepth 10000 in
set_option maxHeartbeats 1000000 in
theorem k_X10_signature (s : zSh) (v pa : Int → Int) (sn : Int) (tx : Int → Int) (ty si fl wi th ap nt rr rq rb wh : Int) (md na : Int → Int) (nd : Int) (up lo : Int → Int) (us lw : Int)  (hs : okW s) (hv : Vr s v)  : zMet q_X10_signature 1 0 0 [zR 0] (wM v pa sn tx ty si fl wi th ap nt rr rq rb wh md na nd up lo us lw) (zD (some (zI (s.2.2.2.2.2.1))) (wM v pa sn tx ty si fl wi 0 ap nt rr rq rb wh md na nd up lo us lw)) := by
  refine z_introF (ls := [(0, _)]) (by decide +kernel) rfl (fun _ _ => rfl) (fun _ _ => Nat.le_of_ble_eq_true rfl) ?_
  obtain ⟨v0, v1, v2, v3, vT, vF, vL⟩ := id hv
  have hz := hs.1
  obtain ⟨z1, z2, zT1, z4, zF1, zL1⟩ := id hz.1
  have zNm := hz.2.1
  have zg := hz.2.2.1
  have zm := hz.2.2.2.1
  have zln := hz.2.2.2.2
  have vS := Vr_sg hv zm
  have zQ1 := fun i h1 h2 => (zNm i h1 h2).2.1
  refine wa_aload_n (pc' := 1) dX10_signature_0 rfl rfl rfl ?_
  refine wa_iconst (pc' := 2) dX10_signature_1 rfl ?_
  refine wa_putfield (pc' := 5) (j := 8) (w' := [zO _ [_, _, _, _, _, _, _, _, _, _, _, _, _, _, _, _, _, _, _, _, _, _, _, _], _, _, _, _, _, _, _, _, _]) zc_X10 lk_X10_46 dX10_signature_2 rfl (by decide) rfl rfl (Nat.le_of_ble_eq_true rfl) True.intro rfl ?_
  refine wa_aload_n (pc' := 6) dX10_signature_5 rfl rfl rfl ?_
  refine wa_rI2 (pc' := 9) (st := []) (k_X10_signatureNow s _ _ _ _ _ _ _ _ _ _ _ _ _ _ _ _ _ _ _ _ _ _ hs hv ) ok_X10_signatureNow lm_X10_171 dX10_signature_6 rfl (wM_ok _ _ _ _ _ _ _ _ _ _ _ _ _ _ _ _ _ _ _ _ _ _) rfl rfl (Nat.le_of_ble_eq_true rfl) rfl rfl rfl rfl (by decide) (Nat.le_of_ble_eq_true rfl) rfl (by decide) (by decide) rfl rfl ?_
  refine wa_iret dX10_signature_9 rfl (by decide) (by decide) ?_
  first | exact zD_i rfl rfl | exact zD_i (by rw [if_pos (by omega)]) rfl | exact zD_i (by rw [if_neg (by omega)]) rfl

theorem ite1 {P : Prop} [Decidable P] (h : ¬ (if P then (1 : Int) else 0) = 0) : P := by
  split at h
  · assumption
  · exact absurd rfl h
theorem ite0 {P : Prop} [Decidable P] (h : (if P then (1 : Int) else 0) = 0) : ¬ P := by
  split at h
  · exact absurd h (by decide)
  · assumption
set_option maxRecDepth 10000 in
set_option maxHeartbeats 1000000 in
theorem k_X10_lyrics (s : zSh) (v pa : Int → Int) (sn : Int) (tx : Int → Int) (ty si fl wi th ap nt rr rq rb wh : Int) (md na : Int → Int) (nd : Int) (up lo : Int → Int) (us lw : Int) (l : Int) (hs : okW s) (hv : Vr s v) (hl : zin l) : zMet q_X10_lyrics 2 0 0 [zR 0, zI l] (wM v pa sn tx ty si fl wi th ap nt rr rq rb wh md na nd up lo us lw) (zD (some (zI (if 0 ≤ l ∧ l < s.2.2.2.1 then s.2.1 (l + 1) - s.2.1 l else 0))) (wM v pa sn tx ty si fl wi (if 0 ≤ l ∧ l < s.2.2.2.1 then 0 else 1) ap nt rr rq rb wh md na nd up lo us lw)) := by
  refine z_introF (ls := [(0, _), (1, _)]) (by decide +kernel) rfl (fun _ _ => rfl) (fun _ _ => Nat.le_of_ble_eq_true rfl) ?_
  obtain ⟨v0, v1, v2, v3, vT, vF, vL⟩ := id hv
  have hz := hs.1
  obtain ⟨z1, z2, zT1, z4, zF1, zL1⟩ := id hz.1
  have zNm := hz.2.1
  have zg := hz.2.2.1
  have zm := hz.2.2.2.1
  have zln := hz.2.2.2.2
  have vS := Vr_sg hv zm
  have zQ1 := fun i h1 h2 => (zNm i h1 h2).2.1
  refine wa_aload_n (pc' := 1) dX10_lyrics_0 rfl rfl rfl ?_
  refine wa_iconst (pc' := 2) dX10_lyrics_1 rfl ?_
  refine wa_putfield (pc' := 5) (j := 8) (w' := [zO _ [_, _, _, _, _, _, _, _, _, _, _, _, _, _, _, _, _, _, _, _, _, _, _, _], _, _, _, _, _, _, _, _, _]) zc_X10 lk_X10_46 dX10_lyrics_2 rfl (by decide) rfl rfl (Nat.le_of_ble_eq_true rfl) True.intro rfl ?_
  refine wa_aload_n (pc' := 6) dX10_lyrics_5 rfl rfl rfl ?_
  refine wa_iload_n (pc' := 7) dX10_lyrics_6 rfl rfl rfl ?_
  refine wa_rI2 (pc' := 10) (st := []) (k_X10_isLine s _ _ _ _ _ _ _ _ _ _ _ _ _ _ _ _ _ _ _ _ _ _ _ hs hv (by omega) ) ok_X10_isLine lm_X10_117 dX10_lyrics_7 rfl (wM_ok _ _ _ _ _ _ _ _ _ _ _ _ _ _ _ _ _ _ _ _ _ _) rfl rfl (Nat.le_of_ble_eq_true rfl) rfl rfl rfl rfl (by decide) (Nat.le_of_ble_eq_true rfl) rfl (by decide) (by decide) rfl rfl ?_
  refine wa_if_eq (tgt := 21) (pc' := 13) dX10_lyrics_10 (by decide) rfl (by split <;> omega) (fun c10 => ?_) (fun c10 => ?_)
  · have h10 := ite0 c10
    refine wa_aload_n (pc' := 22) dX10_lyrics_21 rfl rfl rfl ?_
    refine wa_iconst (pc' := 23) dX10_lyrics_22 rfl ?_
    refine wa_iD2 (pc' := 26) (st := []) (k_X10_fails _ _ _ _ _ _ _ _ _ _ _ _ _ _ _ _ _ _ _ _ _ _ _ ) ok_X10_fails lm_X10_101 dX10_lyrics_23 rfl (wM_ok _ _ _ _ _ _ _ _ _ _ _ _ _ _ _ _ _ _ _ _ _ _) (Eq.refl 10) (wM_ok _ _ _ _ _ _ _ _ _ _ _ _ _ _ _ _ _ _ _ _ _ _) rfl rfl (Nat.le_of_ble_eq_true rfl) rfl rfl rfl rfl (by decide) (Nat.le_of_ble_eq_true rfl) rfl (by decide) (by decide) rfl rfl ?_
    show Wa _ _ _ _ _ _ _ _ [_] _ _ _
    refine wa_iret dX10_lyrics_26 rfl (by decide) (by decide) ?_
    first | exact zD_i (by rw [if_pos (by omega)]) (by rw [if_pos (by omega)]) | exact zD_i (by rw [if_neg (by omega)]) (by rw [if_neg (by omega)])
  · have h10 := ite1 c10
    refine wa_aload_n (pc' := 14) dX10_lyrics_13 rfl rfl rfl ?_
    refine wa_iload_n (pc' := 15) dX10_lyrics_14 rfl rfl rfl ?_
    refine wa_rI2 (pc' := 18) (st := []) (k_X10_lengthOf s _ _ _ _ _ _ _ _ _ _ _ _ _ _ _ _ _ _ _ _ _ _ _ hs hv (by omega) ) ok_X10_lengthOf lm_X10_120 dX10_lyrics_15 rfl (wM_ok _ _ _ _ _ _ _ _ _ _ _ _ _ _ _ _ _ _ _ _ _ _) rfl rfl (Nat.le_of_ble_eq_true rfl) rfl rfl rfl rfl (by decide) (Nat.le_of_ble_eq_true rfl) rfl (by decide) (by decide) rfl rfl ?_
    refine wa_goto (pc' := 26) dX10_lyrics_18 (by decide) ?_
    refine wa_iret dX10_lyrics_26 rfl (by decide) (by decide) ?_
    first | exact zD_i (by rw [if_pos (by omega)]) (by rw [if_pos (by omega)]) | exact zD_i (by rw [if_neg (by omega)]) (by rw [if_neg (by omega)])

set_option maxRecDepth 10000 in
set_option maxHeartbeats 1000000 in
theorem k_X10_lyric (s : zSh) (v pa : Int → Int) (sn : Int) (tx : Int → Int) (ty si fl wi th ap nt rr rq rb wh : Int) (md na : Int → Int) (nd : Int) (up lo : Int → Int) (us lw : Int) (l : Int) (k : Int) (hs : okW s) (hv : Vr s v) (hl : zin l) (hk : zin k) : zMet q_X10_lyric 2 0 0 [zR 0, zI l, zI k] (wM v pa sn tx ty si fl wi th ap nt rr rq rb wh md na nd up lo us lw) (zD (some (zI (if (0 ≤ l ∧ l < s.2.2.2.1) ∧ (0 ≤ k ∧ k < s.2.1 (l + 1) - s.2.1 l) then ltr s.1 s.2.1 l k else 0))) (wM v pa sn tx ty si fl wi (if (0 ≤ l ∧ l < s.2.2.2.1) ∧ (0 ≤ k ∧ k < s.2.1 (l + 1) - s.2.1 l) then 0 else 1) ap nt rr rq rb wh md na nd up lo us lw)) := by
  refine z_introF (ls := [(0, _), (1, _), (2, _)]) (by decide +kernel) rfl (fun _ _ => rfl) (fun _ _ => Nat.le_of_ble_eq_true rfl) ?_
  obtain ⟨v0, v1, v2, v3, vT, vF, vL⟩ := id hv
  have hz := hs.1
  obtain ⟨z1, z2, zT1, z4, zF1, zL1⟩ := id hz.1
  have zNm := hz.2.1
  have zg := hz.2.2.1
  have zm := hz.2.2.2.1
  have zln := hz.2.2.2.2
  have vS := Vr_sg hv zm
  have zQ1 := fun i h1 h2 => (zNm i h1 h2).2.1
  refine wa_aload_n (pc' := 1) dX10_lyric_0 rfl rfl rfl ?_
  refine wa_iconst (pc' := 2) dX10_lyric_1 rfl ?_
  refine wa_putfield (pc' := 5) (j := 8) (w' := [zO _ [_, _, _, _, _, _, _, _, _, _, _, _, _, _, _, _, _, _, _, _, _, _, _, _], _, _, _, _, _, _, _, _, _]) zc_X10 lk_X10_46 dX10_lyric_2 rfl (by decide) rfl rfl (Nat.le_of_ble_eq_true rfl) True.intro rfl ?_
  refine wa_aload_n (pc' := 6) dX10_lyric_5 rfl rfl rfl ?_
  refine wa_iload_n (pc' := 7) dX10_lyric_6 rfl rfl rfl ?_
  refine wa_rI2 (pc' := 10) (st := []) (k_X10_isLine s _ _ _ _ _ _ _ _ _ _ _ _ _ _ _ _ _ _ _ _ _ _ _ hs hv (by omega) ) ok_X10_isLine lm_X10_117 dX10_lyric_7 rfl (wM_ok _ _ _ _ _ _ _ _ _ _ _ _ _ _ _ _ _ _ _ _ _ _) rfl rfl (Nat.le_of_ble_eq_true rfl) rfl rfl rfl rfl (by decide) (Nat.le_of_ble_eq_true rfl) rfl (by decide) (by decide) rfl rfl ?_
  refine wa_if_eq (tgt := 37) (pc' := 13) dX10_lyric_10 (by decide) rfl (by split <;> omega) (fun c10 => ?_) (fun c10 => ?_)
  · have h10 := ite0 c10
    refine wa_aload_n (pc' := 38) dX10_lyric_37 rfl rfl rfl ?_
    refine wa_iconst (pc' := 39) dX10_lyric_38 rfl ?_
    refine wa_iD2 (pc' := 42) (st := []) (k_X10_fails _ _ _ _ _ _ _ _ _ _ _ _ _ _ _ _ _ _ _ _ _ _ _ ) ok_X10_fails lm_X10_101 dX10_lyric_39 rfl (wM_ok _ _ _ _ _ _ _ _ _ _ _ _ _ _ _ _ _ _ _ _ _ _) (Eq.refl 10) (wM_ok _ _ _ _ _ _ _ _ _ _ _ _ _ _ _ _ _ _ _ _ _ _) rfl rfl (Nat.le_of_ble_eq_true rfl) rfl rfl rfl rfl (by decide) (Nat.le_of_ble_eq_true rfl) rfl (by decide) (by decide) rfl rfl ?_
    show Wa _ _ _ _ _ _ _ _ [_] _ _ _
    refine wa_iret dX10_lyric_42 rfl (by decide) (by decide) ?_
    first | exact zD_i (by rw [if_pos (by omega)]) (by rw [if_pos (by omega)]) | exact zD_i (by rw [if_neg (by omega)]) (by rw [if_neg (by omega)])
  · have h10 := ite1 c10
    have e1 := zT1 (l + 1) (by omega) (by omega)
    have e2 := zT1 l (by omega) (by omega)
    refine wa_iload_n (pc' := 14) dX10_lyric_13 rfl rfl rfl ?_
    refine wa_iconst (pc' := 15) dX10_lyric_14 rfl ?_
    refine wa_aload_n (pc' := 16) dX10_lyric_15 rfl rfl rfl ?_
    refine wa_iload_n (pc' := 17) dX10_lyric_16 rfl rfl rfl ?_
    refine wa_rI2 (pc' := 20) (st := [_, _]) (k_X10_lengthOf s _ _ _ _ _ _ _ _ _ _ _ _ _ _ _ _ _ _ _ _ _ _ _ hs hv (by omega) ) ok_X10_lengthOf lm_X10_120 dX10_lyric_17 rfl (wM_ok _ _ _ _ _ _ _ _ _ _ _ _ _ _ _ _ _ _ _ _ _ _) rfl rfl (Nat.le_of_ble_eq_true rfl) rfl rfl rfl rfl (by decide) (Nat.le_of_ble_eq_true rfl) rfl (by decide) (by decide) rfl rfl ?_
    refine wa_iconst (pc' := 21) dX10_lyric_20 rfl ?_
    refine wa_isub (pc' := 22) dX10_lyric_21 rfl ?_
    refine wa_dS (pc' := 25) (w' := [_, _, _, _, _, _, _, _, _, _]) (k_X10_in _ _ _ (by omega) (by omega) (by omega) ) ok_X10_in lm_X10_97 dX10_lyric_22 rfl [] rfl (by decide) rfl rfl (by decide) (Nat.le_of_ble_eq_true rfl) rfl (by decide) (by decide) rfl rfl rfl ?_
    refine wa_if_eq (tgt := 37) (pc' := 28) dX10_lyric_25 (by decide) rfl (by split <;> omega) (fun c25 => ?_) (fun c25 => ?_)
    · have h25 := ite0 c25
      refine wa_aload_n (pc' := 38) dX10_lyric_37 rfl rfl rfl ?_
      refine wa_iconst (pc' := 39) dX10_lyric_38 rfl ?_
      refine wa_iD2 (pc' := 42) (st := []) (k_X10_fails _ _ _ _ _ _ _ _ _ _ _ _ _ _ _ _ _ _ _ _ _ _ _ ) ok_X10_fails lm_X10_101 dX10_lyric_39 rfl (wM_ok _ _ _ _ _ _ _ _ _ _ _ _ _ _ _ _ _ _ _ _ _ _) (Eq.refl 10) (wM_ok _ _ _ _ _ _ _ _ _ _ _ _ _ _ _ _ _ _ _ _ _ _) rfl rfl (Nat.le_of_ble_eq_true rfl) rfl rfl rfl rfl (by decide) (Nat.le_of_ble_eq_true rfl) rfl (by decide) (by decide) rfl rfl ?_
      show Wa _ _ _ _ _ _ _ _ [_] _ _ _
      refine wa_iret dX10_lyric_42 rfl (by decide) (by decide) ?_
      first | exact zD_i (by rw [if_pos (by omega)]) (by rw [if_pos (by omega)]) | exact zD_i (by rw [if_neg (by omega)]) (by rw [if_neg (by omega)])
    · have h25 := ite1 c25
      refine wa_aload_n (pc' := 29) dX10_lyric_28 rfl rfl rfl ?_
      refine wa_iload_n (pc' := 30) dX10_lyric_29 rfl rfl rfl ?_
      refine wa_iload_n (pc' := 31) dX10_lyric_30 rfl rfl rfl ?_
      refine wa_rI2 (pc' := 34) (st := []) (k_X10_lyricAt s _ _ _ _ _ _ _ _ _ _ _ _ _ _ _ _ _ _ _ _ _ _ _ _ hs hv (by omega) (by omega) ) ok_X10_lyricAt lm_X10_123 dX10_lyric_31 rfl (wM_ok _ _ _ _ _ _ _ _ _ _ _ _ _ _ _ _ _ _ _ _ _ _) rfl rfl (Nat.le_of_ble_eq_true rfl) rfl rfl rfl rfl (by decide) (Nat.le_of_ble_eq_true rfl) rfl (by decide) (by decide) rfl rfl ?_
      refine wa_goto (pc' := 42) dX10_lyric_34 (by decide) ?_
      refine wa_iret dX10_lyric_42 rfl (by decide) (by decide) ?_
      first | exact zD_i (by rw [if_pos (by omega)]) (by rw [if_pos (by omega)]) | exact zD_i (by rw [if_neg (by omega)]) (by rw [if_neg (by omega)])

set_option maxRecDepth 10000 in
set_option maxHeartbeats 1000000 in
theorem k_X10_told (s : zSh) (v pa : Int → Int) (sn : Int) (tx : Int → Int) (ty si fl wi th ap nt rr rq rb wh : Int) (md na : Int → Int) (nd : Int) (up lo : Int → Int) (us lw : Int) (i : Int) (f : Int) (hs : okW s) (hv : Vr s v) (hi : zin i) (hf : 0 ≤ f ∧ f < 5) : zMet q_X10_told 2 0 0 [zR 0, zI i, zI f] (wM v pa sn tx ty si fl wi th ap nt rr rq rb wh md na nd up lo us lw) (zD (some (zI (if 0 ≤ i ∧ i < s.2.2.2.2.1 then s.2.2.1 (i * 5 + f) else 0))) (wM v pa sn tx ty si fl wi (if 0 ≤ i ∧ i < s.2.2.2.2.1 then 0 else 1) ap nt rr rq rb wh md na nd up lo us lw)) := by
  refine z_introF (ls := [(0, _), (1, _), (2, _)]) (by decide +kernel) rfl (fun _ _ => rfl) (fun _ _ => Nat.le_of_ble_eq_true rfl) ?_
  obtain ⟨v0, v1, v2, v3, vT, vF, vL⟩ := id hv
  have hz := hs.1
  obtain ⟨z1, z2, zT1, z4, zF1, zL1⟩ := id hz.1
  have zNm := hz.2.1
  have zg := hz.2.2.1
  have zm := hz.2.2.2.1
  have zln := hz.2.2.2.2
  have vS := Vr_sg hv zm
  have zQ1 := fun i h1 h2 => (zNm i h1 h2).2.1
  refine wa_aload_n (pc' := 1) dX10_told_0 rfl rfl rfl ?_
  refine wa_iconst (pc' := 2) dX10_told_1 rfl ?_
  refine wa_putfield (pc' := 5) (j := 8) (w' := [zO _ [_, _, _, _, _, _, _, _, _, _, _, _, _, _, _, _, _, _, _, _, _, _, _, _], _, _, _, _, _, _, _, _, _]) zc_X10 lk_X10_46 dX10_told_2 rfl (by decide) rfl rfl (Nat.le_of_ble_eq_true rfl) True.intro rfl ?_
  refine wa_aload_n (pc' := 6) dX10_told_5 rfl rfl rfl ?_
  refine wa_iload_n (pc' := 7) dX10_told_6 rfl rfl rfl ?_
  refine wa_rI2 (pc' := 10) (st := []) (k_X10_isChord s _ _ _ _ _ _ _ _ _ _ _ _ _ _ _ _ _ _ _ _ _ _ _ hs hv (by omega) ) ok_X10_isChord lm_X10_127 dX10_told_7 rfl (wM_ok _ _ _ _ _ _ _ _ _ _ _ _ _ _ _ _ _ _ _ _ _ _) rfl rfl (Nat.le_of_ble_eq_true rfl) rfl rfl rfl rfl (by decide) (Nat.le_of_ble_eq_true rfl) rfl (by decide) (by decide) rfl rfl ?_
  refine wa_if_eq (tgt := 27) (pc' := 13) dX10_told_10 (by decide) rfl (by split <;> omega) (fun c10 => ?_) (fun c10 => ?_)
  · have h10 := ite0 c10
    refine wa_aload_n (pc' := 28) dX10_told_27 rfl rfl rfl ?_
    refine wa_iconst (pc' := 29) dX10_told_28 rfl ?_
    refine wa_iD2 (pc' := 32) (st := []) (k_X10_fails _ _ _ _ _ _ _ _ _ _ _ _ _ _ _ _ _ _ _ _ _ _ _ ) ok_X10_fails lm_X10_101 dX10_told_29 rfl (wM_ok _ _ _ _ _ _ _ _ _ _ _ _ _ _ _ _ _ _ _ _ _ _) (Eq.refl 10) (wM_ok _ _ _ _ _ _ _ _ _ _ _ _ _ _ _ _ _ _ _ _ _ _) rfl rfl (Nat.le_of_ble_eq_true rfl) rfl rfl rfl rfl (by decide) (Nat.le_of_ble_eq_true rfl) rfl (by decide) (by decide) rfl rfl ?_
    show Wa _ _ _ _ _ _ _ _ [_] _ _ _
    refine wa_iret dX10_told_32 rfl (by decide) (by decide) ?_
    first | exact zD_i (by rw [if_pos (by omega), e1]) (by rw [if_pos (by omega)]) | exact zD_i (by rw [if_neg (by omega)]) (by rw [if_neg (by omega)])
  · have h10 := ite1 c10
    have e1 := Vr_F hv (i := i) (f := f) (by omega) hf
    refine wa_aload_n (pc' := 14) dX10_told_13 rfl rfl rfl ?_
    refine wa_getfield (pc' := 17) (j := 0) zc_X10 lk_X10_7 dX10_told_14 rfl (by decide) rfl rfl ?_
    refine wa_iload_n (pc' := 18) dX10_told_17 rfl rfl rfl ?_
    refine wa_dS (pc' := 21) (w' := [_, _, _, _, _, _, _, _, _, _]) (k_X10_chord _ (by omega) ) ok_X10_chord lm_X10_94 dX10_told_18 rfl [] rfl (by decide) rfl rfl (by decide) (Nat.le_of_ble_eq_true rfl) rfl (by decide) (by decide) rfl rfl rfl ?_
    refine wa_iload_n (pc' := 22) dX10_told_21 rfl rfl rfl ?_
    refine wa_iadd (pc' := 23) dX10_told_22 rfl ?_
    refine wa_iaload (pc' := 24) dX10_told_23 rfl rfl (by omega) (by omega) (by decide) ?_
    refine wa_goto (pc' := 32) dX10_told_24 (by decide) ?_
    refine wa_iret dX10_told_32 rfl (by decide) (by decide) ?_
    first | exact zD_i (by rw [if_pos (by omega), e1]) (by rw [if_pos (by omega)]) | exact zD_i (by rw [if_neg (by omega)]) (by rw [if_neg (by omega)])

set_option maxRecDepth 10000 in
set_option maxHeartbeats 1000000 in
theorem k_X10_lineOf (s : zSh) (v pa : Int → Int) (sn : Int) (tx : Int → Int) (ty si fl wi th ap nt rr rq rb wh : Int) (md na : Int → Int) (nd : Int) (up lo : Int → Int) (us lw : Int) (i : Int) (hs : okW s) (hv : Vr s v) (hi : zin i) : zMet q_X10_lineOf 3 0 0 [zR 0, zI i] (wM v pa sn tx ty si fl wi th ap nt rr rq rb wh md na nd up lo us lw) (zD (some (zI (if 0 ≤ i ∧ i < s.2.2.2.2.1 then s.2.2.1 (i * 5 + 0) else 0))) (wM v pa sn tx ty si fl wi (if 0 ≤ i ∧ i < s.2.2.2.2.1 then 0 else 1) ap nt rr rq rb wh md na nd up lo us lw)) := by
  refine z_introF (ls := [(0, _), (1, _)]) (by decide +kernel) rfl (fun _ _ => rfl) (fun _ _ => Nat.le_of_ble_eq_true rfl) ?_
  obtain ⟨v0, v1, v2, v3, vT, vF, vL⟩ := id hv
  have hz := hs.1
  obtain ⟨z1, z2, zT1, z4, zF1, zL1⟩ := id hz.1
  have zNm := hz.2.1
  have zg := hz.2.2.1
  have zm := hz.2.2.2.1
  have zln := hz.2.2.2.2
  have vS := Vr_sg hv zm
  have zQ1 := fun i h1 h2 => (zNm i h1 h2).2.1
  refine wa_aload_n (pc' := 1) dX10_lineOf_0 rfl rfl rfl ?_
  refine wa_iload_n (pc' := 2) dX10_lineOf_1 rfl rfl rfl ?_
  refine wa_iconst (pc' := 3) dX10_lineOf_2 rfl ?_
  refine wa_iD2 (pc' := 6) (st := []) (k_X10_told s _ _ _ _ _ _ _ _ _ _ _ _ _ _ _ _ _ _ _ _ _ _ _ _ hs hv (by omega) (by omega) ) ok_X10_told lm_X10_130 dX10_lineOf_3 rfl (wM_ok _ _ _ _ _ _ _ _ _ _ _ _ _ _ _ _ _ _ _ _ _ _) (Eq.refl 10) (wM_ok _ _ _ _ _ _ _ _ _ _ _ _ _ _ _ _ _ _ _ _ _ _) rfl rfl (Nat.le_of_ble_eq_true rfl) rfl rfl rfl rfl (by decide) (Nat.le_of_ble_eq_true rfl) rfl (by decide) (by decide) rfl rfl ?_
  show Wa _ _ _ _ _ _ _ _ [_] _ _ _
  refine wa_iret dX10_lineOf_6 rfl (by decide) (by decide) ?_
  first | exact zD_i rfl rfl | exact zD_i (by rw [if_pos (by omega)]) rfl | exact zD_i (by rw [if_neg (by omega)]) rfl

set_option maxRecDepth 10000 in
set_option maxHeartbeats 1000000 in
theorem k_X10_columnOf (s : zSh) (v pa : Int → Int) (sn : Int) (tx : Int → Int) (ty si fl wi th ap nt rr rq rb wh : Int) (md na : Int → Int) (nd : Int) (up lo : Int → Int) (us lw : Int) (i : Int) (hs : okW s) (hv : Vr s v) (hi : zin i) : zMet q_X10_columnOf 3 0 0 [zR 0, zI i] (wM v pa sn tx ty si fl wi th ap nt rr rq rb wh md na nd up lo us lw) (zD (some (zI (if 0 ≤ i ∧ i < s.2.2.2.2.1 then s.2.2.1 (i * 5 + 1) else 0))) (wM v pa sn tx ty si fl wi (if 0 ≤ i ∧ i < s.2.2.2.2.1 then 0 else 1) ap nt rr rq rb wh md na nd up lo us lw)) := by
  refine z_introF (ls := [(0, _), (1, _)]) (by decide +kernel) rfl (fun _ _ => rfl) (fun _ _ => Nat.le_of_ble_eq_true rfl) ?_
  obtain ⟨v0, v1, v2, v3, vT, vF, vL⟩ := id hv
  have hz := hs.1
  obtain ⟨z1, z2, zT1, z4, zF1, zL1⟩ := id hz.1
  have zNm := hz.2.1
  have zg := hz.2.2.1
  have zm := hz.2.2.2.1
  have zln := hz.2.2.2.2
  have vS := Vr_sg hv zm
  have zQ1 := fun i h1 h2 => (zNm i h1 h2).2.1
  refine wa_aload_n (pc' := 1) dX10_columnOf_0 rfl rfl rfl ?_
  refine wa_iload_n (pc' := 2) dX10_columnOf_1 rfl rfl rfl ?_
  refine wa_iconst (pc' := 3) dX10_columnOf_2 rfl ?_
  refine wa_iD2 (pc' := 6) (st := []) (k_X10_told s _ _ _ _ _ _ _ _ _ _ _ _ _ _ _ _ _ _ _ _ _ _ _ _ hs hv (by omega) (by omega) ) ok_X10_told lm_X10_130 dX10_columnOf_3 rfl (wM_ok _ _ _ _ _ _ _ _ _ _ _ _ _ _ _ _ _ _ _ _ _ _) (Eq.refl 10) (wM_ok _ _ _ _ _ _ _ _ _ _ _ _ _ _ _ _ _ _ _ _ _ _) rfl rfl (Nat.le_of_ble_eq_true rfl) rfl rfl rfl rfl (by decide) (Nat.le_of_ble_eq_true rfl) rfl (by decide) (by decide) rfl rfl ?_
  show Wa _ _ _ _ _ _ _ _ [_] _ _ _
  refine wa_iret dX10_columnOf_6 rfl (by decide) (by decide) ?_
  first | exact zD_i rfl rfl | exact zD_i (by rw [if_pos (by omega)]) rfl | exact zD_i (by rw [if_neg (by omega)]) rfl

set_option maxRecDepth 10000 in
set_option maxHeartbeats 1000000 in
theorem k_X10_rootOf (s : zSh) (v pa : Int → Int) (sn : Int) (tx : Int → Int) (ty si fl wi th ap nt rr rq rb wh : Int) (md na : Int → Int) (nd : Int) (up lo : Int → Int) (us lw : Int) (i : Int) (hs : okW s) (hv : Vr s v) (hi : zin i) : zMet q_X10_rootOf 3 0 0 [zR 0, zI i] (wM v pa sn tx ty si fl wi th ap nt rr rq rb wh md na nd up lo us lw) (zD (some (zI (if 0 ≤ i ∧ i < s.2.2.2.2.1 then s.2.2.1 (i * 5 + 2) else 0))) (wM v pa sn tx ty si fl wi (if 0 ≤ i ∧ i < s.2.2.2.2.1 then 0 else 1) ap nt rr rq rb wh md na nd up lo us lw)) := by
  refine z_introF (ls := [(0, _), (1, _)]) (by decide +kernel) rfl (fun _ _ => rfl) (fun _ _ => Nat.le_of_ble_eq_true rfl) ?_
  obtain ⟨v0, v1, v2, v3, vT, vF, vL⟩ := id hv
  have hz := hs.1
  obtain ⟨z1, z2, zT1, z4, zF1, zL1⟩ := id hz.1
  have zNm := hz.2.1
  have zg := hz.2.2.1
  have zm := hz.2.2.2.1
  have zln := hz.2.2.2.2
  have vS := Vr_sg hv zm
  have zQ1 := fun i h1 h2 => (zNm i h1 h2).2.1
  refine wa_aload_n (pc' := 1) dX10_rootOf_0 rfl rfl rfl ?_
  refine wa_iload_n (pc' := 2) dX10_rootOf_1 rfl rfl rfl ?_
  refine wa_iconst (pc' := 3) dX10_rootOf_2 rfl ?_
  refine wa_iD2 (pc' := 6) (st := []) (k_X10_told s _ _ _ _ _ _ _ _ _ _ _ _ _ _ _ _ _ _ _ _ _ _ _ _ hs hv (by omega) (by omega) ) ok_X10_told lm_X10_130 dX10_rootOf_3 rfl (wM_ok _ _ _ _ _ _ _ _ _ _ _ _ _ _ _ _ _ _ _ _ _ _) (Eq.refl 10) (wM_ok _ _ _ _ _ _ _ _ _ _ _ _ _ _ _ _ _ _ _ _ _ _) rfl rfl (Nat.le_of_ble_eq_true rfl) rfl rfl rfl rfl (by decide) (Nat.le_of_ble_eq_true rfl) rfl (by decide) (by decide) rfl rfl ?_
  show Wa _ _ _ _ _ _ _ _ [_] _ _ _
  refine wa_iret dX10_rootOf_6 rfl (by decide) (by decide) ?_
  first | exact zD_i rfl rfl | exact zD_i (by rw [if_pos (by omega)]) rfl | exact zD_i (by rw [if_neg (by omega)]) rfl

set_option maxRecDepth 10000 in
set_option maxHeartbeats 1000000 in
theorem k_X10_qualityOf (s : zSh) (v pa : Int → Int) (sn : Int) (tx : Int → Int) (ty si fl wi th ap nt rr rq rb wh : Int) (md na : Int → Int) (nd : Int) (up lo : Int → Int) (us lw : Int) (i : Int) (hs : okW s) (hv : Vr s v) (hi : zin i) : zMet q_X10_qualityOf 3 0 0 [zR 0, zI i] (wM v pa sn tx ty si fl wi th ap nt rr rq rb wh md na nd up lo us lw) (zD (some (zI (if 0 ≤ i ∧ i < s.2.2.2.2.1 then s.2.2.1 (i * 5 + 3) else 0))) (wM v pa sn tx ty si fl wi (if 0 ≤ i ∧ i < s.2.2.2.2.1 then 0 else 1) ap nt rr rq rb wh md na nd up lo us lw)) := by
  refine z_introF (ls := [(0, _), (1, _)]) (by decide +kernel) rfl (fun _ _ => rfl) (fun _ _ => Nat.le_of_ble_eq_true rfl) ?_
  obtain ⟨v0, v1, v2, v3, vT, vF, vL⟩ := id hv
  have hz := hs.1
  obtain ⟨z1, z2, zT1, z4, zF1, zL1⟩ := id hz.1
  have zNm := hz.2.1
  have zg := hz.2.2.1
  have zm := hz.2.2.2.1
  have zln := hz.2.2.2.2
  have vS := Vr_sg hv zm
  have zQ1 := fun i h1 h2 => (zNm i h1 h2).2.1
  refine wa_aload_n (pc' := 1) dX10_qualityOf_0 rfl rfl rfl ?_
  refine wa_iload_n (pc' := 2) dX10_qualityOf_1 rfl rfl rfl ?_
  refine wa_iconst (pc' := 3) dX10_qualityOf_2 rfl ?_
  refine wa_iD2 (pc' := 6) (st := []) (k_X10_told s _ _ _ _ _ _ _ _ _ _ _ _ _ _ _ _ _ _ _ _ _ _ _ _ hs hv (by omega) (by omega) ) ok_X10_told lm_X10_130 dX10_qualityOf_3 rfl (wM_ok _ _ _ _ _ _ _ _ _ _ _ _ _ _ _ _ _ _ _ _ _ _) (Eq.refl 10) (wM_ok _ _ _ _ _ _ _ _ _ _ _ _ _ _ _ _ _ _ _ _ _ _) rfl rfl (Nat.le_of_ble_eq_true rfl) rfl rfl rfl rfl (by decide) (Nat.le_of_ble_eq_true rfl) rfl (by decide) (by decide) rfl rfl ?_
  show Wa _ _ _ _ _ _ _ _ [_] _ _ _
  refine wa_iret dX10_qualityOf_6 rfl (by decide) (by decide) ?_
  first | exact zD_i rfl rfl | exact zD_i (by rw [if_pos (by omega)]) rfl | exact zD_i (by rw [if_neg (by omega)]) rfl

set_option maxRecDepth 10000 in
set_option maxHeartbeats 1000000 in
theorem k_X10_bassOf (s : zSh) (v pa : Int → Int) (sn : Int) (tx : Int → Int) (ty si fl wi th ap nt rr rq rb wh : Int) (md na : Int → Int) (nd : Int) (up lo : Int → Int) (us lw : Int) (i : Int) (hs : okW s) (hv : Vr s v) (hi : zin i) : zMet q_X10_bassOf 3 0 0 [zR 0, zI i] (wM v pa sn tx ty si fl wi th ap nt rr rq rb wh md na nd up lo us lw) (zD (some (zI (if 0 ≤ i ∧ i < s.2.2.2.2.1 then s.2.2.1 (i * 5 + 4) else 0))) (wM v pa sn tx ty si fl wi (if 0 ≤ i ∧ i < s.2.2.2.2.1 then 0 else 1) ap nt rr rq rb wh md na nd up lo us lw)) := by
  refine z_introF (ls := [(0, _), (1, _)]) (by decide +kernel) rfl (fun _ _ => rfl) (fun _ _ => Nat.le_of_ble_eq_true rfl) ?_
  obtain ⟨v0, v1, v2, v3, vT, vF, vL⟩ := id hv
  have hz := hs.1
  obtain ⟨z1, z2, zT1, z4, zF1, zL1⟩ := id hz.1
  have zNm := hz.2.1
  have zg := hz.2.2.1
  have zm := hz.2.2.2.1
  have zln := hz.2.2.2.2
  have vS := Vr_sg hv zm
  have zQ1 := fun i h1 h2 => (zNm i h1 h2).2.1
  refine wa_aload_n (pc' := 1) dX10_bassOf_0 rfl rfl rfl ?_
  refine wa_iload_n (pc' := 2) dX10_bassOf_1 rfl rfl rfl ?_
  refine wa_iconst (pc' := 3) dX10_bassOf_2 rfl ?_
  refine wa_iD2 (pc' := 6) (st := []) (k_X10_told s _ _ _ _ _ _ _ _ _ _ _ _ _ _ _ _ _ _ _ _ _ _ _ _ hs hv (by omega) (by omega) ) ok_X10_told lm_X10_130 dX10_bassOf_3 rfl (wM_ok _ _ _ _ _ _ _ _ _ _ _ _ _ _ _ _ _ _ _ _ _ _) (Eq.refl 10) (wM_ok _ _ _ _ _ _ _ _ _ _ _ _ _ _ _ _ _ _ _ _ _ _) rfl rfl (Nat.le_of_ble_eq_true rfl) rfl rfl rfl rfl (by decide) (Nat.le_of_ble_eq_true rfl) rfl (by decide) (by decide) rfl rfl ?_
  show Wa _ _ _ _ _ _ _ _ [_] _ _ _
  refine wa_iret dX10_bassOf_6 rfl (by decide) (by decide) ?_
  first | exact zD_i rfl rfl | exact zD_i (by rw [if_pos (by omega)]) rfl | exact zD_i (by rw [if_neg (by omega)]) rfl

set_option maxRecDepth 10000 in
set_option maxHeartbeats 1000000 in
theorem k_X10_clearText (v pa : Int → Int) (sn : Int) (tx : Int → Int) (ty si fl wi th ap nt rr rq rb wh : Int) (md na : Int → Int) (nd : Int) (up lo : Int → Int) (us lw : Int)   : zMet q_X10_clearText 0 0 0 [zR 0] (wM v pa sn tx ty si fl wi th ap nt rr rq rb wh md na nd up lo us lw) (zD (some (zI (ty))) (wM v pa sn tx 0 si fl wi 0 ap nt rr rq rb wh md na nd up lo us lw)) := by
  refine z_introF (ls := [(0, _)]) (by decide +kernel) rfl (fun _ _ => rfl) (fun _ _ => Nat.le_of_ble_eq_true rfl) ?_
  refine wa_aload_n (pc' := 1) dX10_clearText_0 rfl rfl rfl ?_
  refine wa_iconst (pc' := 2) dX10_clearText_1 rfl ?_
  refine wa_putfield (pc' := 5) (j := 8) (w' := [zO _ [_, _, _, _, _, _, _, _, _, _, _, _, _, _, _, _, _, _, _, _, _, _, _, _], _, _, _, _, _, _, _, _, _]) zc_X10 lk_X10_46 dX10_clearText_2 rfl (by decide) rfl rfl (Nat.le_of_ble_eq_true rfl) True.intro rfl ?_
  refine wa_aload_n (pc' := 6) dX10_clearText_5 rfl rfl rfl ?_
  refine wa_getfield (pc' := 9) (j := 4) zc_X10 lk_X10_56 dX10_clearText_6 rfl (by decide) rfl rfl ?_
  refine wa_istore_n (pc' := 10) (ls' := [(1, _), (0, _)]) dX10_clearText_9 rfl rfl (by decide) rfl ?_
  refine wa_aload_n (pc' := 11) dX10_clearText_10 rfl rfl rfl ?_
  refine wa_iconst (pc' := 12) dX10_clearText_11 rfl ?_
  refine wa_putfield (pc' := 15) (j := 4) (w' := [zO _ [_, _, _, _, _, _, _, _, _, _, _, _, _, _, _, _, _, _, _, _, _, _, _, _], _, _, _, _, _, _, _, _, _]) zc_X10 lk_X10_56 dX10_clearText_12 rfl (by decide) rfl rfl (Nat.le_of_ble_eq_true rfl) True.intro rfl ?_
  refine wa_iload_n (pc' := 16) dX10_clearText_15 rfl rfl rfl ?_
  refine wa_iret dX10_clearText_16 rfl (by decide) (by decide) ?_
  first | exact zD_i rfl rfl | exact zD_i (by rw [if_pos (by omega)]) rfl | exact zD_i (by rw [if_neg (by omega)]) rfl

set_option maxRecDepth 10000 in
set_option maxHeartbeats 1000000 in
theorem k_X10_type (v pa : Int → Int) (sn : Int) (tx : Int → Int) (ty si fl wi th ap nt rr rq rb wh : Int) (md na : Int → Int) (nd : Int) (up lo : Int → Int) (us lw : Int) (c : Int) (hc : zin c) (ht : 0 ≤ ty ∧ ty ≤ 200) : zMet q_X10_type 1 0 0 [zR 0, zI c] (wM v pa sn tx ty si fl wi th ap nt rr rq rb wh md na nd up lo us lw) (zD (some (zI (if 32 ≤ c ∧ c ≤ 126 then (if ty = 200 then 0 else ty + 1) else 0))) (wM v pa sn (if 32 ≤ c ∧ c ≤ 126 then (if ty = 200 then tx else zup tx ty c) else tx) (if 32 ≤ c ∧ c ≤ 126 then (if ty = 200 then ty else ty + 1) else ty) si fl wi (if 32 ≤ c ∧ c ≤ 126 then (if ty = 200 then 2 else 0) else 1) ap nt rr rq rb wh md na nd up lo us lw)) := by
  refine z_introF (ls := [(0, _), (1, _)]) (by decide +kernel) rfl (fun _ _ => rfl) (fun _ _ => Nat.le_of_ble_eq_true rfl) ?_
  refine wa_aload_n (pc' := 1) dX10_type_0 rfl rfl rfl ?_
  refine wa_iconst (pc' := 2) dX10_type_1 rfl ?_
  refine wa_putfield (pc' := 5) (j := 8) (w' := [zO _ [_, _, _, _, _, _, _, _, _, _, _, _, _, _, _, _, _, _, _, _, _, _, _, _], _, _, _, _, _, _, _, _, _]) zc_X10 lk_X10_46 dX10_type_2 rfl (by decide) rfl rfl (Nat.le_of_ble_eq_true rfl) True.intro rfl ?_
  refine wa_iload_n (pc' := 6) dX10_type_5 rfl rfl rfl ?_
  refine wa_bipush (pc' := 8) dX10_type_6 rfl rfl ?_
  refine wa_bipush (pc' := 10) dX10_type_8 rfl rfl ?_
  refine wa_dS (pc' := 13) (w' := [_, _, _, _, _, _, _, _, _, _]) (k_X10_in _ _ _ (by omega) (by omega) (by omega) ) ok_X10_in lm_X10_97 dX10_type_10 rfl [] rfl (by decide) rfl rfl (by decide) (Nat.le_of_ble_eq_true rfl) rfl (by decide) (by decide) rfl rfl rfl ?_
  refine wa_if_ne (tgt := 22) (pc' := 16) dX10_type_13 (by decide) rfl (by split <;> omega) (fun c13 => ?_) (fun c13 => ?_)
  · have h13 := ite1 c13
    refine wa_aload_n (pc' := 23) dX10_type_22 rfl rfl rfl ?_
    refine wa_getfield (pc' := 26) (j := 4) zc_X10 lk_X10_56 dX10_type_23 rfl (by decide) rfl rfl ?_
    refine wa_sipush (pc' := 29) dX10_type_26 rfl rfl ?_
    refine wa_icmp_ne (tgt := 38) (pc' := 32) dX10_type_29 (by decide) rfl (by omega) (by omega) (fun c29 => ?_) (fun c29 => ?_)
    · refine wa_aload_n (pc' := 39) dX10_type_38 rfl rfl rfl ?_
      refine wa_getfield (pc' := 42) (j := 3) zc_X10 lk_X10_16 dX10_type_39 rfl (by decide) rfl rfl ?_
      refine wa_aload_n (pc' := 43) dX10_type_42 rfl rfl rfl ?_
      refine wa_getfield (pc' := 46) (j := 4) zc_X10 lk_X10_56 dX10_type_43 rfl (by decide) rfl rfl ?_
      refine wa_iload_n (pc' := 47) dX10_type_46 rfl rfl rfl ?_
      refine wa_iastore (pc' := 48) (w' := [_, _, _, zA _ _ _, _, _, _, _, _, _]) dX10_type_47 rfl rfl (by omega) (by omega) (by decide) rfl ?_
      refine wa_aload_n (pc' := 49) dX10_type_48 rfl rfl rfl ?_
      refine wa_dup (pc' := 50) dX10_type_49 rfl rfl ?_
      refine wa_getfield (pc' := 53) (j := 4) zc_X10 lk_X10_56 dX10_type_50 rfl (by decide) rfl rfl ?_
      refine wa_iconst (pc' := 54) dX10_type_53 rfl ?_
      refine wa_iadd (pc' := 55) dX10_type_54 rfl ?_
      refine wa_putfield (pc' := 58) (j := 4) (w' := [zO _ [_, _, _, _, _, _, _, _, _, _, _, _, _, _, _, _, _, _, _, _, _, _, _, _], _, _, _, _, _, _, _, _, _]) zc_X10 lk_X10_56 dX10_type_55 rfl (by decide) rfl rfl (Nat.le_of_ble_eq_true rfl) True.intro rfl ?_
      refine wa_aload_n (pc' := 59) dX10_type_58 rfl rfl rfl ?_
      refine wa_getfield (pc' := 62) (j := 4) zc_X10 lk_X10_56 dX10_type_59 rfl (by decide) rfl rfl ?_
      refine wa_iret dX10_type_62 rfl (by decide) (by decide) ?_
      exact zD_i (by (repeat (first | rw [if_pos (by omega)] | rw [if_neg (by omega)])) <;> rfl) (by (repeat (first | rw [if_pos (by omega)] | rw [if_neg (by omega)])) <;> rfl)
    · refine wa_aload_n (pc' := 33) dX10_type_32 rfl rfl rfl ?_
      refine wa_iconst (pc' := 34) dX10_type_33 rfl ?_
      refine wa_iD2 (pc' := 37) (st := []) (k_X10_fails _ _ _ _ _ _ _ _ _ _ _ _ _ _ _ _ _ _ _ _ _ _ _ ) ok_X10_fails lm_X10_101 dX10_type_34 rfl (wM_ok _ _ _ _ _ _ _ _ _ _ _ _ _ _ _ _ _ _ _ _ _ _) (Eq.refl 10) (wM_ok _ _ _ _ _ _ _ _ _ _ _ _ _ _ _ _ _ _ _ _ _ _) rfl rfl (Nat.le_of_ble_eq_true rfl) rfl rfl rfl rfl (by decide) (Nat.le_of_ble_eq_true rfl) rfl (by decide) (by decide) rfl rfl ?_
      show Wa _ _ _ _ _ _ _ _ [_] _ _ _
      refine wa_iret dX10_type_37 rfl (by decide) (by decide) ?_
      exact zD_i (by (repeat (first | rw [if_pos (by omega)] | rw [if_neg (by omega)])) <;> rfl) (by (repeat (first | rw [if_pos (by omega)] | rw [if_neg (by omega)])) <;> rfl)
  · have h13 := ite0 c13
    refine wa_aload_n (pc' := 17) dX10_type_16 rfl rfl rfl ?_
    refine wa_iconst (pc' := 18) dX10_type_17 rfl ?_
    refine wa_iD2 (pc' := 21) (st := []) (k_X10_fails _ _ _ _ _ _ _ _ _ _ _ _ _ _ _ _ _ _ _ _ _ _ _ ) ok_X10_fails lm_X10_101 dX10_type_18 rfl (wM_ok _ _ _ _ _ _ _ _ _ _ _ _ _ _ _ _ _ _ _ _ _ _) (Eq.refl 10) (wM_ok _ _ _ _ _ _ _ _ _ _ _ _ _ _ _ _ _ _ _ _ _ _) rfl rfl (Nat.le_of_ble_eq_true rfl) rfl rfl rfl rfl (by decide) (Nat.le_of_ble_eq_true rfl) rfl (by decide) (by decide) rfl rfl ?_
    show Wa _ _ _ _ _ _ _ _ [_] _ _ _
    refine wa_iret dX10_type_21 rfl (by decide) (by decide) ?_
    exact zD_i (by (repeat (first | rw [if_pos (by omega)] | rw [if_neg (by omega)])) <;> rfl) (by (repeat (first | rw [if_pos (by omega)] | rw [if_neg (by omega)])) <;> rfl)

set_option maxRecDepth 10000 in
set_option maxHeartbeats 1000000 in
theorem k_X10_setSimple (v pa : Int → Int) (sn : Int) (tx : Int → Int) (ty si fl wi th ap nt rr rq rb wh : Int) (md na : Int → Int) (nd : Int) (up lo : Int → Int) (us lw : Int) (b : Int) (hb : b = 0 ∨ b = 1) (hs : si = 0 ∨ si = 1) : zMet q_X10_setSimple 0 0 0 [zR 0, zI b] (wM v pa sn tx ty si fl wi th ap nt rr rq rb wh md na nd up lo us lw) (zD (some (zI (si))) (wM v pa sn tx ty b fl wi 0 ap nt rr rq rb wh md na nd up lo us lw)) := by
  refine z_introF (ls := [(0, _), (1, _)]) (by decide +kernel) rfl (fun _ _ => rfl) (fun _ _ => Nat.le_of_ble_eq_true rfl) ?_
  refine wa_aload_n (pc' := 1) dX10_setSimple_0 rfl rfl rfl ?_
  refine wa_iconst (pc' := 2) dX10_setSimple_1 rfl ?_
  refine wa_putfield (pc' := 5) (j := 8) (w' := [zO _ [_, _, _, _, _, _, _, _, _, _, _, _, _, _, _, _, _, _, _, _, _, _, _, _], _, _, _, _, _, _, _, _, _]) zc_X10 lk_X10_46 dX10_setSimple_2 rfl (by decide) rfl rfl (Nat.le_of_ble_eq_true rfl) True.intro rfl ?_
  refine wa_aload_n (pc' := 6) dX10_setSimple_5 rfl rfl rfl ?_
  refine wa_getfield (pc' := 9) (j := 5) zc_X10 lk_X10_19 dX10_setSimple_6 rfl (by decide) rfl rfl ?_
  refine wa_istore_n (pc' := 10) (ls' := [(2, _), (0, _), (1, _)]) dX10_setSimple_9 rfl rfl (by decide) rfl ?_
  refine wa_aload_n (pc' := 11) dX10_setSimple_10 rfl rfl rfl ?_
  refine wa_iload_n (pc' := 12) dX10_setSimple_11 rfl rfl rfl ?_
  refine wa_putfield (pc' := 15) (j := 5) (w' := [zO _ [_, _, _, _, _, _, _, _, _, _, _, _, _, _, _, _, _, _, _, _, _, _, _, _], _, _, _, _, _, _, _, _, _]) zc_X10 lk_X10_19 dX10_setSimple_12 rfl (by decide) rfl rfl (Nat.le_of_ble_eq_true rfl) (by show _ ∨ _; omega) rfl ?_
  refine wa_iload_n (pc' := 16) dX10_setSimple_15 rfl rfl rfl ?_
  refine wa_zret dX10_setSimple_16 rfl (by decide) (by decide) (by omega) ?_
  first | exact zD_i rfl rfl | exact zD_i (by rw [if_pos (by omega)]) rfl | exact zD_i (by rw [if_neg (by omega)]) rfl

set_option maxRecDepth 10000 in
set_option maxHeartbeats 1000000 in
theorem k_X10_setFlats (v pa : Int → Int) (sn : Int) (tx : Int → Int) (ty si fl wi th ap nt rr rq rb wh : Int) (md na : Int → Int) (nd : Int) (up lo : Int → Int) (us lw : Int) (b : Int) (hb : b = 0 ∨ b = 1) (hs : fl = 0 ∨ fl = 1) : zMet q_X10_setFlats 0 0 0 [zR 0, zI b] (wM v pa sn tx ty si fl wi th ap nt rr rq rb wh md na nd up lo us lw) (zD (some (zI (fl))) (wM v pa sn tx ty si b wi 0 ap nt rr rq rb wh md na nd up lo us lw)) := by
  refine z_introF (ls := [(0, _), (1, _)]) (by decide +kernel) rfl (fun _ _ => rfl) (fun _ _ => Nat.le_of_ble_eq_true rfl) ?_
  refine wa_aload_n (pc' := 1) dX10_setFlats_0 rfl rfl rfl ?_
  refine wa_iconst (pc' := 2) dX10_setFlats_1 rfl ?_
  refine wa_putfield (pc' := 5) (j := 8) (w' := [zO _ [_, _, _, _, _, _, _, _, _, _, _, _, _, _, _, _, _, _, _, _, _, _, _, _], _, _, _, _, _, _, _, _, _]) zc_X10 lk_X10_46 dX10_setFlats_2 rfl (by decide) rfl rfl (Nat.le_of_ble_eq_true rfl) True.intro rfl ?_
  refine wa_aload_n (pc' := 6) dX10_setFlats_5 rfl rfl rfl ?_
  refine wa_getfield (pc' := 9) (j := 6) zc_X10 lk_X10_114 dX10_setFlats_6 rfl (by decide) rfl rfl ?_
  refine wa_istore_n (pc' := 10) (ls' := [(2, _), (0, _), (1, _)]) dX10_setFlats_9 rfl rfl (by decide) rfl ?_
  refine wa_aload_n (pc' := 11) dX10_setFlats_10 rfl rfl rfl ?_
  refine wa_iload_n (pc' := 12) dX10_setFlats_11 rfl rfl rfl ?_
  refine wa_putfield (pc' := 15) (j := 6) (w' := [zO _ [_, _, _, _, _, _, _, _, _, _, _, _, _, _, _, _, _, _, _, _, _, _, _, _], _, _, _, _, _, _, _, _, _]) zc_X10 lk_X10_114 dX10_setFlats_12 rfl (by decide) rfl rfl (Nat.le_of_ble_eq_true rfl) (by show _ ∨ _; omega) rfl ?_
  refine wa_iload_n (pc' := 16) dX10_setFlats_15 rfl rfl rfl ?_
  refine wa_zret dX10_setFlats_16 rfl (by decide) (by decide) (by omega) ?_
  first | exact zD_i rfl rfl | exact zD_i (by rw [if_pos (by omega)]) rfl | exact zD_i (by rw [if_neg (by omega)]) rfl

set_option maxRecDepth 10000 in
set_option maxHeartbeats 1000000 in
theorem k_X10_setWidth (v pa : Int → Int) (sn : Int) (tx : Int → Int) (ty si fl wi th ap nt rr rq rb wh : Int) (md na : Int → Int) (nd : Int) (up lo : Int → Int) (us lw : Int) (x : Int) (hx : zin x) : zMet q_X10_setWidth 1 0 0 [zR 0, zI x] (wM v pa sn tx ty si fl wi th ap nt rr rq rb wh md na nd up lo us lw) (zD (some (zI (if 10 ≤ x ∧ x ≤ 200 then wi else 0))) (wM v pa sn tx ty si fl (if 10 ≤ x ∧ x ≤ 200 then x else wi) (if 10 ≤ x ∧ x ≤ 200 then 0 else 1) ap nt rr rq rb wh md na nd up lo us lw)) := by
  refine z_introF (ls := [(0, _), (1, _)]) (by decide +kernel) rfl (fun _ _ => rfl) (fun _ _ => Nat.le_of_ble_eq_true rfl) ?_
  refine wa_aload_n (pc' := 1) dX10_setWidth_0 rfl rfl rfl ?_
  refine wa_iconst (pc' := 2) dX10_setWidth_1 rfl ?_
  refine wa_putfield (pc' := 5) (j := 8) (w' := [zO _ [_, _, _, _, _, _, _, _, _, _, _, _, _, _, _, _, _, _, _, _, _, _, _, _], _, _, _, _, _, _, _, _, _]) zc_X10 lk_X10_46 dX10_setWidth_2 rfl (by decide) rfl rfl (Nat.le_of_ble_eq_true rfl) True.intro rfl ?_
  refine wa_iload_n (pc' := 6) dX10_setWidth_5 rfl rfl rfl ?_
  refine wa_bipush (pc' := 8) dX10_setWidth_6 rfl rfl ?_
  refine wa_sipush (pc' := 11) dX10_setWidth_8 rfl rfl ?_
  refine wa_dS (pc' := 14) (w' := [_, _, _, _, _, _, _, _, _, _]) (k_X10_in _ _ _ (by omega) (by omega) (by omega) ) ok_X10_in lm_X10_97 dX10_setWidth_11 rfl [] rfl (by decide) rfl rfl (by decide) (Nat.le_of_ble_eq_true rfl) rfl (by decide) (by decide) rfl rfl rfl ?_
  refine wa_if_ne (tgt := 23) (pc' := 17) dX10_setWidth_14 (by decide) rfl (by omega) (fun c14 => ?_) (fun c14 => ?_)
  · refine wa_aload_n (pc' := 24) dX10_setWidth_23 rfl rfl rfl ?_
    refine wa_getfield (pc' := 27) (j := 7) zc_X10 lk_X10_23 dX10_setWidth_24 rfl (by decide) rfl rfl ?_
    refine wa_istore_n (pc' := 28) (ls' := [(2, _), (0, _), (1, _)]) dX10_setWidth_27 rfl rfl (by decide) rfl ?_
    refine wa_aload_n (pc' := 29) dX10_setWidth_28 rfl rfl rfl ?_
    refine wa_iload_n (pc' := 30) dX10_setWidth_29 rfl rfl rfl ?_
    refine wa_putfield (pc' := 33) (j := 7) (w' := [zO _ [_, _, _, _, _, _, _, _, _, _, _, _, _, _, _, _, _, _, _, _, _, _, _, _], _, _, _, _, _, _, _, _, _]) zc_X10 lk_X10_23 dX10_setWidth_30 rfl (by decide) rfl rfl (Nat.le_of_ble_eq_true rfl) True.intro rfl ?_
    refine wa_iload_n (pc' := 34) dX10_setWidth_33 rfl rfl rfl ?_
    refine wa_iret dX10_setWidth_34 rfl (by decide) (by decide) ?_
    exact zD_i (by (repeat (first | rw [if_pos (by omega)] | rw [if_neg (by omega)])) <;> rfl) (by (repeat (first | rw [if_pos (by omega)] | rw [if_neg (by omega)])) <;> rfl)
  · refine wa_aload_n (pc' := 18) dX10_setWidth_17 rfl rfl rfl ?_
    refine wa_iconst (pc' := 19) dX10_setWidth_18 rfl ?_
    refine wa_iD2 (pc' := 22) (st := []) (k_X10_fails _ _ _ _ _ _ _ _ _ _ _ _ _ _ _ _ _ _ _ _ _ _ _ ) ok_X10_fails lm_X10_101 dX10_setWidth_19 rfl (wM_ok _ _ _ _ _ _ _ _ _ _ _ _ _ _ _ _ _ _ _ _ _ _) (Eq.refl 10) (wM_ok _ _ _ _ _ _ _ _ _ _ _ _ _ _ _ _ _ _ _ _ _ _) rfl rfl (Nat.le_of_ble_eq_true rfl) rfl rfl rfl rfl (by decide) (Nat.le_of_ble_eq_true rfl) rfl (by decide) (by decide) rfl rfl ?_
    show Wa _ _ _ _ _ _ _ _ [_] _ _ _
    refine wa_iret dX10_setWidth_22 rfl (by decide) (by decide) ?_
    exact zD_i (by (repeat (first | rw [if_pos (by omega)] | rw [if_neg (by omega)])) <;> rfl) (by (repeat (first | rw [if_pos (by omega)] | rw [if_neg (by omega)])) <;> rfl)

