/-! further steps -/
section ZST
variable {Y Y1 : zY} {d d1 mc ms mc1 ms1 n0 : Nat} {Post Post1 : zP → List zE → Prop} {pc pc' : Nat} {ls : List (Nat × zV)} {st stk as : List zV} {w w1 : List zE} {nc ns : Nat} {ρ : List Nat}
theorem wa_join {J : Nat} {P : Int → Prop} (kJ : ∀ x, P x → Wa Y d mc ms n0 Post J ls (zI x :: st) w nc ns) (k : (∀ x, P x → Wa Y d mc ms n0 Post J ls (zI x :: st) w nc ns) → Wa Y d mc ms n0 Post pc ls st w nc ns) : Wa Y d mc ms n0 Post pc ls st w nc ns := k kJ
theorem wa_tabIn {a dflt lo hi off : Int} {offs : Array Int} {len tgt : Nat} (hd : decode Y.2.1 pc = .ok (.tableswitch dflt lo hi offs, len)) (ha : zin a) (h1 : ¬ a < lo) (h2 : ¬ hi < a) (ho : offs[(a - lo).toNat]? = some off) (ht : (pc : Int) + off = (tgt : Int)) (k : Wa Y d mc ms n0 Post tgt ls st w nc ns) : Wa Y d mc ms n0 Post pc ls (zI a :: st) w nc ns := by
  intro p l e R s m args below meth c G A ad0 Qm C F ad H locs lsA hag hst hl
  have kk := k p l e R s m args below meth c G A ad0 Qm C F ad H locs lsA hag hst hl
  obtain ⟨-, -, hx, hb, -⟩ := C
  exact lv_tableIn hx hb hd (by rw [zin_t ha]; exact h1) (by rw [zin_t ha]; exact h2) (by rw [zin_t ha]; exact ho) ht kk
theorem wa_tabOut {a dflt lo hi : Int} {offs : Array Int} {len tgt : Nat} (hd : decode Y.2.1 pc = .ok (.tableswitch dflt lo hi offs, len)) (ha : zin a) (h : a < lo ∨ hi < a) (ht : (pc : Int) + dflt = (tgt : Int)) (k : Wa Y d mc ms n0 Post tgt ls st w nc ns) : Wa Y d mc ms n0 Post pc ls (zI a :: st) w nc ns := by
  intro p l e R s m args below meth c G A ad0 Qm C F ad H locs lsA hag hst hl
  have kk := k p l e R s m args below meth c G A ad0 Qm C F ad H locs lsA hag hst hl
  obtain ⟨-, -, hx, hb, -⟩ := C
  exact lv_tableOut hx hb hd (by rw [zin_t ha]; exact h) ht kk
theorem wa_wrap {a b : Int} (h : Int32.ofInt a = Int32.ofInt b) (k : Wa Y d mc ms n0 Post pc ls (zI b :: st) w nc ns) : Wa Y d mc ms n0 Post pc ls (zI a :: st) w nc ns := by
  intro p l e R s m args below meth c G A ad0 Qm C F ad H locs lsA hag hst hl
  have kk := k p l e R s m args below meth c G A ad0 Qm C F ad H locs lsA hag hst hl
  have e1 : zc G.2.2.1 ad (zI a) = zc G.2.2.1 ad (zI b) := congrArg Value.int h
  rw [List.map_cons, e1, ← List.map_cons]
  exact kk
theorem wa_lload {i : Nat} {x : Int} (hd : decode Y.2.1 pc = .ok (.lload i, 2)) (hp : pc + 2 = pc') (hg : zget ls i = some (zJ x)) (k : Wa Y d mc ms n0 Post pc' ls (zJ x :: st) w nc ns) : Wa Y d mc ms n0 Post pc ls st w nc ns := by
  subst hp
  intro p l e R s m args below meth c G A ad0 Qm C F ad H locs lsA hag hst hl
  have kk := k p l e R s m args below meth c G A ad0 Qm C F ad H locs lsA hag hst hl
  obtain ⟨-, -, hx, hb, -⟩ := C
  exact lv_lload hx hb hd (zget_at hl hg) kk
theorem wa_lstore {i : Nat} {x : Int} {ls' : List (Nat × zV)} (hd : decode Y.2.1 pc = .ok (.lstore i, 2)) (hp : pc + 2 = pc') (hn : i + 1 < Y.2.2.1) (hl9 : zput2 ls i (zJ x) = ls') (k : Wa Y d mc ms n0 Post pc' ls' st w nc ns) : Wa Y d mc ms n0 Post pc ls (zJ x :: st) w nc ns := by
  subst hl9
  subst hp
  intro p l e R s m args below meth c G A ad0 Qm C F ad H locs lsA hag hst hl
  have kk := fun lsA' hl' => k p l e R s m args below meth c G A ad0 Qm C F ad H locs lsA' hag hst hl'
  obtain ⟨-, -, hx, hb, -⟩ := C
  exact lv_lstore hx hb hd hl hn (zput2_c G.2.2.1 ad ls i (zJ x)) (fun lsA' hl' => kk lsA' hl')
theorem wa_lconst0 (hd : decode Y.2.1 pc = .ok (.lconst 0, 1)) (hp : pc + 1 = pc') (k : Wa Y d mc ms n0 Post pc' ls (zJ 0 :: st) w nc ns) : Wa Y d mc ms n0 Post pc ls st w nc ns := by
  subst hp
  intro p l e R s m args below meth c G A ad0 Qm C F ad H locs lsA hag hst hl
  have kk := k p l e R s m args below meth c G A ad0 Qm C F ad H locs lsA hag hst hl
  obtain ⟨-, -, hx, hb, -⟩ := C
  exact lv_lconst hx hb hd (v := Int64.ofInt 0) rfl kk
end ZST
def zlushr (a b : Int) : Int := ((Int64.ofInt a).toUInt64 >>> ((Int32.ofInt b).toInt64.toUInt64 &&& Int64.toUInt64 63)).toInt64.toInt
def zl2i (a : Int) : Int := (Int64.ofInt a).toInt32.toInt
section ZST2
variable {Y Y1 : zY} {d d1 mc ms mc1 ms1 n0 : Nat} {Post Post1 : zP → List zE → Prop} {pc pc' : Nat} {ls : List (Nat × zV)} {st stk as : List zV} {w w1 : List zE} {nc ns : Nat} {ρ : List Nat}
theorem wa_lushr {a b : Int} (hd : decode Y.2.1 pc = .ok (.lushr, 1)) (hp : pc + 1 = pc') (k : Wa Y d mc ms n0 Post pc' ls (zJ (zlushr a b) :: st) w nc ns) : Wa Y d mc ms n0 Post pc ls (zI b :: zJ a :: st) w nc ns := by
  subst hp
  intro p l e R s m args below meth c G A ad0 Qm C F ad H locs lsA hag hst hl
  have kk := k p l e R s m args below meth c G A ad0 Qm C F ad H locs lsA hag hst hl
  obtain ⟨-, -, hx, hb, -⟩ := C
  refine lv_lushr hx hb hd rfl ?_
  have e9 : zc G.2.2.1 ad (zJ (zlushr a b)) = .long _ := congrArg Value.long (Int64.ofInt_toInt _)
  rw [← e9]
  exact kk
theorem wa_l2i {a : Int} (hd : decode Y.2.1 pc = .ok (.l2i, 1)) (hp : pc + 1 = pc') (k : Wa Y d mc ms n0 Post pc' ls (zI (zl2i a) :: st) w nc ns) : Wa Y d mc ms n0 Post pc ls (zJ a :: st) w nc ns := by
  subst hp
  intro p l e R s m args below meth c G A ad0 Qm C F ad H locs lsA hag hst hl
  have kk := k p l e R s m args below meth c G A ad0 Qm C F ad H locs lsA hag hst hl
  obtain ⟨-, -, hx, hb, -⟩ := C
  refine lv_l2i hx hb hd rfl ?_
  have e9 : zc G.2.2.1 ad (zI (zl2i a)) = .int _ := congrArg Value.int (Int32.ofInt_toInt _)
  rw [← e9]
  exact kk
def zdrop (ls : List (Nat × zV)) (i : Nat) : List (Nat × zV) := ls.filter fun q => !(q.1 == i) && !(q.1 + 1 == i && zcat q.2 == 2)
/-- a row of the exception table that catches E at pc, none before it does -/
def zCat (Y : zY) (pc : Nat) (E : String) (x : ExceptionTableEntry) : Prop := ∃ (pre suf : List ExceptionTableEntry), tableOf Y.2.2.2.2 = pre ++ x :: suf ∧ (∀ z ∈ pre, z.catchType ≠ 0 ∧ ∃ nm, Cond.classLink Y.1.cls z.catchType nm ∈ lw_tbl ∧ E = eIS ∧ (nm = eIA ∨ nm = eIO)) ∧ (covers x pc = true ∧ x.catchType ≠ 0) ∧ (Cond.classLink Y.1.cls x.catchType E ∈ lw_tbl ∧ Cond.castable E E ∈ lw_tbl)
theorem wa_callX {q ci : Nat} {fs : List zV} {vc : vw_C} {idx n : Nat} (M : zMet Y1 d1 mc1 ms1 (zR q :: as) w1 Post1) (hO : zOkV Y1 n) (hlink : Cond.methodLink Y.1.cls idx Y1.1 ∈ lw_tbl) (hd : decode Y.2.1 pc = .ok (.invokevirtual idx, 3)) (hp : pc + 3 = pc') (ρ : List Nat) (hsub : ρ.map (fun i => w[i]?) = w1.map fun e => some (zre ρ e)) (hn : ρ.Nodup) (hstk : (as.map (zrv ρ)).reverse ++ zR (ρ.getD q 0) :: st = stk) (hna : as.length = n) (hq : w1[q]? = some (zO ci fs)) (hvc : vwCl[ci]? = some vc) (hcls : vc.1 = Y1.1.cls) (hd1 : d1 + 1 ≤ d) (hcat : (st.map zcat).sum ≤ 8) (hmc : nc + mc1 ≤ mc) (hms : ns + ms1 ≤ ms) (hlen : ∀ o w', Post1 o w' → w'.length = w1.length)
    (kx : ∀ (E : String) (w1' : List zE), Post1 (.inr E) w1' → ∃ (x : ExceptionTableEntry) (qi : Fin 4) (i : Nat) (ls' : List (Nat × zV)), zCat Y pc E x ∧ (qi : Nat) = i ∧ i < Y.2.2.1 ∧ decode Y.2.1 x.handlerPc = .ok (.astore_n qi, 1) ∧ zdrop ls i = ls' ∧ Wa Y d mc ms n0 Post (x.handlerPc + 1) ls' [] (zins (zre ρ) ρ w1' w) (nc + mc1) (ns + ms1))
    (k : ∀ (v : Option zV) (w1' : List zE), Post1 (.inl v) w1' → Wa Y d mc ms n0 Post pc' ls ((v.map (zrv ρ)).toList ++ st) (zins (zre ρ) ρ w1' w) (nc + mc1) (ns + ms1)) : Wa Y d mc ms n0 Post pc ls stk w nc ns := by
  subst hp
  subst hstk
  intro p l e R s m args below meth c G A ad0 Qm C9 F ad H locs lsA hag hst hl
  obtain ⟨hfl, hR, hx, hb, hml, hr9, hown, hlk, hnm, htb, hT, hE, hA⟩ := id C9
  refine z_go C9 F hag hst hl hsub hn hlen (a := ((zR q :: as).map (zc G.2.2.1 (fun k => ad (ρ.getD k 0)))).toArray) ?_ (fun E w1' H1 locs1 q ce hp1 hst1 hce hcv hcl => ?_) k
  · refine vx_runV (As := as.map (zc G.2.2.1 (fun k => ad (ρ.getD k 0)))) (b := ad (ρ.getD q 0)) (C := Y1.1.cls) (cc := Y.2.1) (nL := Y.2.2.1) (Ts := []) ⟨hx, hb, hml, hown, fun _ h => nomatch h⟩ (M l G (fun k => ad (ρ.getD k 0)) H.size hfl) ⟨z_cb hO.1 hT hlink hd1 hR, hT.at hO.2.1 (zgood_c _ rfl) _, hT.at hO.2.2 (zgood_c _ rfl) _⟩ ⟨(z_pre hsub hn hst hE hT hA).1, ?_, (z_pre (as := zR q :: as) hsub hn hst hE hT hA).2⟩ rfl (by rw [List.length_map]; exact hna) hl.1 ?_ (lv_room (z_cat hcat)) hd ⟨by omega, by omega⟩
    · obtain ⟨cell, g1, g2, g3⟩ := va_recv hE.1.1 (z_partP (ad := ad) hsub hst.1) hvc (zw_get hq)
      exact ⟨cell, g1, g2, by rw [← hcls]; exact g3⟩
    · show List.map _ _ = _
      rw [List.map_append, List.map_reverse, z_map]
      rfl
  · obtain ⟨x, qi, i, ls', ⟨pre, suf, hsp, hpre, ⟨hcov, h0⟩, ⟨hl1, hl2⟩⟩, hqi, hi, g1, hls, kW⟩ := kx E w1' hp1
    refine vx_catch (own := Y.1.cls) (name := E) (E := E) hown pre x suf (by rw [htb]; exact hsp) (fun z hz => ?_) hcov h0 (hT.at hl1 (zgood_c _ rfl) _) (hT.at hl2 rfl _) hce hcv hcl ?_
    · obtain ⟨a1, nm, a2, rfl, a3⟩ := hpre z hz
      refine Or.inr ⟨a1, nm, hT.at a2 (zgood_c _ rfl) _, ?_⟩
      obtain ⟨n1, n2⟩ := hE.2.2.2.2.2.2.2.2.1
      rcases a3 with rfl | rfl
      · exact n1
      · exact n2
    · subst hls
      have ez : (zls G.2.2.1 ad ls).filter (fun q => !(q.1 == i) && !(q.1 + 1 == i && q.2.category == 2)) = zls G.2.2.1 ad (zdrop ls i) := (List.cons.inj (zput1_c G.2.2.1 ad ls i zN)).2
      exact lv_astore_n hx hb g1 hqi hl hi rfl (fun lsA' hl' => kW p l e R s m args below meth c G A ad0 Qm C9 F ad H1 locs1 lsA' ⟨by rw [zins_len]; exact hag.1, by rw [zins_len]; exact hag.2⟩ hst1 (zls_sub hl' (fun z hz => List.mem_cons_of_mem _ (by rw [ez]; exact hz))))
theorem wa_callSH {idx n : Nat} {h1 : Nat × Nat × Nat × Nat} {ht : List (Nat × Nat × Nat × Nat)} (M : zMet Y1 d1 mc1 ms1 as w1 Post1) (hO : zOkH Y1 n) (hhY : Y1.2.2.2.2 = h1 :: ht) (hlink : Cond.methodLink Y.1.cls idx Y1.1 ∈ lw_tbl) (hd : decode Y.2.1 pc = .ok (.invokestatic idx, 3)) (hp : pc + 3 = pc') (ρ : List Nat) (hsub : ρ.map (fun i => w[i]?) = w1.map fun e => some (zre ρ e)) (hn : ρ.Nodup) (hstk : (as.map (zrv ρ)).reverse ++ st = stk) (hna : as.length = n) (hd1 : d1 + 1 ≤ d) (hcat : (st.map zcat).sum ≤ 8) (hmc : nc + mc1 ≤ mc) (hms : ns + ms1 ≤ ms) (hlen : ∀ o w', Post1 o w' → w'.length = w1.length)
    (kx : ∀ (E : String) (w1' : List zE), ¬ Post1 (.inr E) w1')
    (k : ∀ (v : Option zV) (w1' : List zE), Post1 (.inl v) w1' → Wa Y d mc ms n0 Post pc' ls ((v.map (zrv ρ)).toList ++ st) (zins (zre ρ) ρ w1' w) (nc + mc1) (ns + ms1)) : Wa Y d mc ms n0 Post pc ls stk w nc ns := by
  subst hp
  subst hstk
  intro p l e R s m args below meth c G A ad0 Qm C9 F ad H locs lsA hag hst hl
  obtain ⟨hfl, hR, hx, hb, hml, hr9, hown, hlk, hnm, htb, hT, hE, hA⟩ := id C9
  refine z_go C9 F hag hst hl hsub hn hlen (a := (as.map (zc G.2.2.1 (fun k => ad (ρ.getD k 0)))).toArray) ?_ (fun E w1' H1 locs1 q ce hp1 hst1 hce hcv hcl => absurd hp1 (kx E w1')) k
  have hw : zwd Y1 = .codeWith Y1.1 Y1.2.1 Y1.2.2.1 Y1.2.2.2.1 Y1.2.2.2.2 := by unfold zwd; rw [hhY]
  obtain ⟨g1, g2, g3, g4, g5, g6⟩ := hO
  have hcw : vx_CSW R s args Y.1.cls idx Y1.1 Y1.2.1 Y1.2.2.1 Y1.2.2.2.1 Y1.2.2.2.2 [zwd Y1] (zRm d1 mc1 ms1) mc1 ms1 n := by
    refine ⟨⟨rfl, rfl, by show d1 + 1 ≤ R.frames; omega, by show 8 + (Y1.2.2.1 + 11) + 34 * d1 ≤ R.locals; omega, fun w hw9 a' U hW => ?_, by rw [hw]; exact List.mem_cons_self⟩, ?_, hT.at g2 (zgood_c _ rfl) _, g3, fun sig h => ?_, hT.at hlink (zgood_c _ rfl) _, hT.at g6 (zgood_c _ rfl) _⟩
    · rw [List.mem_singleton] at hw9
      subst hw9
      exact (zTab_warm hW hT).at g1 (zgood_c _ (zwd_good Y1)) _
    · rw [← hw]
      exact hT.at g1 (zgood_c _ (zwd_good Y1)) _
    · rw [h] at g4
      exact (Option.some.inj g4).symm
  refine vx_runSX (As := as.map (zc G.2.2.1 (fun k => ad (ρ.getD k 0)))) (cc := Y.2.1) (nL := Y.2.2.1) (Ts := []) ⟨hx, hb, hml, hown, fun _ h => nomatch h⟩ (M l G (fun k => ad (ρ.getD k 0)) H.size hfl) hcw (z_pre hsub hn hst hE hT hA) rfl (by rw [List.length_map]; exact hna) hl.1 ?_ (lv_room (z_cat hcat)) hd ⟨by omega, by omega⟩
  · show List.map _ _ = _
    rw [List.map_append, List.map_reverse, z_map]
/-- cells behind the world are forgotten -/
theorem wa_drop {r : List zE} (hn : n0 ≤ w.length) (hw : zokw w.length w) (hls : ls.all (fun q => zokv w.length q.2) = true) (hsk : st.all (zokv w.length) = true) (k : Wa Y d mc ms n0 Post pc ls st w nc ns) : Wa Y d mc ms n0 Post pc ls st (w ++ r) nc ns := by
  intro p l e R s m args below meth c G A ad0 Qm C9 F ad H locs lsA hag hst hl
  obtain ⟨hP, hD, hS⟩ := id hst
  have hlo : ∀ j, j < w.length → (fun j => if j < w.length then ad j else ad0 j) j = ad j := fun j hj => if_pos hj
  have key : ∀ (j : Nat) (q : Nat × va_E), (zw G (fun j => if j < w.length then ad j else ad0 j) w)[j]? = some q → (zw G ad (w ++ r))[j]? = some q := by
    intro j q hq
    rw [zw_at] at hq
    rw [zw_at]
    cases he : w[j]? with
    | none => rw [he] at hq; exact nomatch hq
    | some x =>
      have hj : j < w.length := (List.getElem?_eq_some_iff.mp he).1
      rw [he] at hq
      rw [List.getElem?_append_left hj, he, ← hq]
      show some (ad j, ze G ad x) = some ((fun j => if j < w.length then ad j else ad0 j) j, ze G (fun j => if j < w.length then ad j else ad0 j) x)
      rw [ze_ag hlo (zokw_at hw he), hlo j hj]
  have kk := k p l e R s m args below meth c G A ad0 Qm C9 F (fun j => if j < w.length then ad j else ad0 j) H locs lsA ⟨hn, fun j hj => ?_⟩ ⟨fun j q hq => hP j q (key j q hq), ⟨fun i j p q hi hj => hD.1 i j p q (key i p hi) (key j q hj), fun j q hq => hD.2 j q (key j q hq)⟩, hS⟩ (by rw [zls_ag hlo hls]; exact hl)
  · rw [zcs_ag hlo hsk] at kk
    exact kk
  · show (if j < w.length then ad j else ad0 j) = ad0 j
    by_cases hj2 : j < w.length
    · rw [if_pos hj2]
      exact hag.2 j (by omega)
    · rw [if_neg hj2]
end ZST2
/-! worlds with more behind them -/
theorem hsub_g {ρ : List Nat} {w1 w : List zE} (hl : ρ.length = w1.length) (h : ∀ (i : Nat) (e : zE), w1[i]? = some e → ∃ j, ρ[i]? = some j ∧ w[j]? = some (zre ρ e)) : ρ.map (fun i => w[i]?) = w1.map fun e => some (zre ρ e) := by
  apply List.ext_getElem?
  intro i
  rw [List.getElem?_map, List.getElem?_map]
  by_cases hi : i < w1.length
  · obtain ⟨j, h1, h2⟩ := h i w1[i] (List.getElem?_eq_getElem hi)
    rw [h1, List.getElem?_eq_getElem hi]
    show some w[j]? = some (some _)
    rw [h2]
  · rw [List.getElem?_eq_none (by omega), List.getElem?_eq_none (by omega)]
    rfl
theorem hsub_pre {w1 r : List zE} (h : zokw w1.length w1) : (List.range w1.length).map (fun i => (w1 ++ r)[i]?) = w1.map fun e => some (zre (List.range w1.length) e) := by
  refine hsub_g (List.length_range) (fun i e he => ?_)
  have hi : i < w1.length := (List.getElem?_eq_some_iff.mp he).1
  exact ⟨i, List.getElem?_range hi, by rw [List.getElem?_append_left hi, he, zre_id (zokw_at h he)]⟩
theorem zins_pre {w1 w2 r : List zE} (hl : w2.length = w1.length) (h : zokw w1.length w2) : zins (zre (List.range w1.length)) (List.range w1.length) w2 (w1 ++ r) = w2 ++ r := by
  refine zins_of List.nodup_range ?_ (by rw [List.length_append, List.length_append, hl]) (fun k hk => ?_)
  · have := hsub_pre (w1 := w2) (r := r) (by rw [hl]; exact h)
    rw [hl] at this
    exact this
  · have hk' : w1.length ≤ k := by rw [List.mem_range] at hk; omega
    rw [List.getElem?_append_right (by omega), List.getElem?_append_right (by omega), hl]
theorem wCS_len (c : zCS) : (wCS c).length = 53 := rfl
theorem wCS_ok (c : zCS) : zokw 53 (wCS c) := wC_ok _ _ _ _ _ _ _ _ _ _ _ _
/-- what a method of the law leaves: an answer and the object -/
def zLP (P : zV → zCS → Prop) : zP → List zE → Prop := fun o w' => ∃ (v : zV) (c1 : zCS), P v c1 ∧ o = .inl (some v) ∧ w' = wCS c1
theorem zLP_len {P : zV → zCS → Prop} (o : zP) (w' : List zE) (h : zLP P o w') : w'.length = 53 := by
  obtain ⟨v, c1, -, -, rfl⟩ := h
  rfl
theorem zLP_x {P : zV → zCS → Prop} (E : String) (w' : List zE) (h : zLP P (.inr E) w') : False := by
  obtain ⟨v, c1, -, h, -⟩ := h
  exact nomatch h
theorem zLP_i {P : zV → zCS → Prop} {v : zV} {c1 : zCS} {w : List zE} (h : P v c1) (hw : w = wCS c1) : zLP P (.inl (some v)) w := ⟨v, c1, h, rfl, hw⟩
theorem zM_LP {Y : zY} {d mc ms : Nat} {as : List zV} {w : List zE} {P Q : zV → zCS → Prop} (h : zMet Y d mc ms as w (zLP P)) (hp : ∀ v c, P v c → Q v c) : zMet Y d mc ms as w (zLP Q) := h.post (fun o w' h1 => by
  obtain ⟨v, c1, h2, h3, h4⟩ := h1
  exact ⟨v, c1, hp _ _ h2, h3, h4⟩)
section ZSX
variable {Y Y1 : zY} {d d1 mc ms mc1 ms1 n0 : Nat} {Post Post1 : zP → List zE → Prop} {pc pc' : Nat} {ls : List (Nat × zV)} {st stk as : List zV} {w w1 : List zE} {nc ns : Nat} {ρ : List Nat}
/-- a call of the object's method, answered as told -/
theorem wx_x {c0 c1 : zCS} {r : List zE} {res : zP × zCS} {v : zV} {vc : vw_C} {idx n : Nat} (M : zMet Y1 d1 mc1 ms1 (zR 0 :: as) (wCS c0) (zX res.1 (wCS res.2))) (hr : res = (.inl (some v), c1)) (hv : zrv (List.range 53) v = v) (hO : zOkV Y1 n) (hlink : Cond.methodLink Y.1.cls idx Y1.1 ∈ lw_tbl) (hd : decode Y.2.1 pc = .ok (.invokevirtual idx, 3)) (hp : pc + 3 = pc') (hstk : (as.map (zrv (List.range 53))).reverse ++ zR 0 :: st = stk) (hna : as.length = n) (hvc : vwCl[5]? = some vc) (hcls : vc.1 = Y1.1.cls) (hd1 : d1 + 1 ≤ d) (hcat : (st.map zcat).sum ≤ 8) (hh : Y.2.2.2.2 = []) (hmc : nc + mc1 ≤ mc) (hms : ns + ms1 ≤ ms)
    (k : Wa Y d mc ms n0 Post pc' ls (v :: st) (wCS c1 ++ r) (nc + mc1) (ns + ms1)) : Wa Y d mc ms n0 Post pc ls stk (wCS c0 ++ r) nc ns := by
  subst hr
  refine wa_callV M hO hlink hd hp (List.range 53) (hsub_pre (w1 := wCS c0) (wCS_ok c0)) List.nodup_range hstk hna rfl hvc hcls hd1 hcat hh hmc hms (fun o w' h9 => by rw [h9.2]; rfl) (fun E w1' h9 => nomatch h9.1) (fun v1 w1' h9 => ?_)
  · obtain ⟨h1, rfl⟩ := h9
    have h3 : v1 = some v := Sum.inl.inj h1
    subst h3
    have hz : zins (zre (List.range 53)) (List.range 53) (wCS c1) (wCS c0 ++ r) = wCS c1 ++ r := zins_pre (w1 := wCS c0) rfl (wCS_ok _)
    rw [hz]
    have e : ((some v).map (zrv (List.range 53))).toList ++ st = v :: st := by rw [Option.map_some, hv]; rfl
    rw [e]
    exact k
theorem wy_x {c0 c1 : zCS} {res : zP × zCS} {v : zV} {vc : vw_C} {idx n : Nat} (M : zMet Y1 d1 mc1 ms1 (zR 0 :: as) (wCS c0) (zX res.1 (wCS res.2))) (hr : res = (.inl (some v), c1)) (hv : zrv (List.range 53) v = v) (hO : zOkV Y1 n) (hlink : Cond.methodLink Y.1.cls idx Y1.1 ∈ lw_tbl) (hd : decode Y.2.1 pc = .ok (.invokevirtual idx, 3)) (hp : pc + 3 = pc') (hstk : (as.map (zrv (List.range 53))).reverse ++ zR 0 :: st = stk) (hna : as.length = n) (hvc : vwCl[5]? = some vc) (hcls : vc.1 = Y1.1.cls) (hd1 : d1 + 1 ≤ d) (hcat : (st.map zcat).sum ≤ 8) (hh : Y.2.2.2.2 = []) (hmc : nc + mc1 ≤ mc) (hms : ns + ms1 ≤ ms)
    (k : Wa Y d mc ms n0 Post pc' ls (v :: st) (wCS c1) (nc + mc1) (ns + ms1)) : Wa Y d mc ms n0 Post pc ls stk (wCS c0) nc ns := by
  rw [← List.append_nil (wCS c0)]
  refine wx_x M hr hv hO hlink hd hp hstk hna hvc hcls hd1 hcat hh hmc hms ?_
  rw [List.append_nil]
  exact k
/-- a call of a method of the law that takes the object -/
theorem wx_s {c0 : zCS} {r : List zE} {P : zV → zCS → Prop} {idx n : Nat} (M : zMet Y1 d1 mc1 ms1 (zR 0 :: as) (wCS c0) (zLP P)) (hv : ∀ v c1, P v c1 → zrv (List.range 53) v = v) (hO : zOkS Y1 n) (hlink : Cond.methodLink Y.1.cls idx Y1.1 ∈ lw_tbl) (hd : decode Y.2.1 pc = .ok (.invokestatic idx, 3)) (hp : pc + 3 = pc') (hstk : ((zR 0 :: as).map (zrv (List.range 53))).reverse ++ st = stk) (hna : (zR 0 :: as).length = n) (hd1 : d1 + 1 ≤ d) (hcat : (st.map zcat).sum ≤ 8) (hh : Y.2.2.2.2 = []) (hmc : nc + mc1 ≤ mc) (hms : ns + ms1 ≤ ms)
    (k : ∀ v c1, P v c1 → Wa Y d mc ms n0 Post pc' ls (v :: st) (wCS c1 ++ r) (nc + mc1) (ns + ms1)) : Wa Y d mc ms n0 Post pc ls stk (wCS c0 ++ r) nc ns := by
  refine wa_callS M hO hlink hd hp (List.range 53) (hsub_pre (w1 := wCS c0) (wCS_ok c0)) List.nodup_range hstk hna hd1 hcat hh hmc hms (fun o w' h9 => zLP_len o w' h9) (fun E w1' h9 => (zLP_x E w1' h9).elim) (fun v1 w1' h9 => ?_)
  obtain ⟨v, c1, h1, h2, rfl⟩ := h9
  have h3 : v1 = some v := Sum.inl.inj h2
  subst h3
  have hz : zins (zre (List.range 53)) (List.range 53) (wCS c1) (wCS c0 ++ r) = wCS c1 ++ r := zins_pre (w1 := wCS c0) rfl (wCS_ok _)
  rw [hz]
  have e : ((some v).map (zrv (List.range 53))).toList ++ st = v :: st := by rw [Option.map_some, hv v c1 h1]; rfl
  rw [e]
  exact k v c1 h1
theorem wy_s {c0 : zCS} {P : zV → zCS → Prop} {idx n : Nat} (M : zMet Y1 d1 mc1 ms1 (zR 0 :: as) (wCS c0) (zLP P)) (hv : ∀ v c1, P v c1 → zrv (List.range 53) v = v) (hO : zOkS Y1 n) (hlink : Cond.methodLink Y.1.cls idx Y1.1 ∈ lw_tbl) (hd : decode Y.2.1 pc = .ok (.invokestatic idx, 3)) (hp : pc + 3 = pc') (hstk : ((zR 0 :: as).map (zrv (List.range 53))).reverse ++ st = stk) (hna : (zR 0 :: as).length = n) (hd1 : d1 + 1 ≤ d) (hcat : (st.map zcat).sum ≤ 8) (hh : Y.2.2.2.2 = []) (hmc : nc + mc1 ≤ mc) (hms : ns + ms1 ≤ ms)
    (k : ∀ v c1, P v c1 → Wa Y d mc ms n0 Post pc' ls (v :: st) (wCS c1) (nc + mc1) (ns + ms1)) : Wa Y d mc ms n0 Post pc ls stk (wCS c0) nc ns := by
  rw [← List.append_nil (wCS c0)]
  refine wx_s M hv hO hlink hd hp hstk hna hd1 hcat hh hmc hms (fun v c1 h => ?_)
  rw [List.append_nil]
  exact k v c1 h
/-- the same, of one that catches -/
theorem wx_h {c0 : zCS} {r : List zE} {P : zV → zCS → Prop} {idx n : Nat} {h1 : Nat × Nat × Nat × Nat} {ht : List (Nat × Nat × Nat × Nat)} (M : zMet Y1 d1 mc1 ms1 (zR 0 :: as) (wCS c0) (zLP P)) (hv : ∀ v c1, P v c1 → zrv (List.range 53) v = v) (hO : zOkH Y1 n) (hhY : Y1.2.2.2.2 = h1 :: ht) (hlink : Cond.methodLink Y.1.cls idx Y1.1 ∈ lw_tbl) (hd : decode Y.2.1 pc = .ok (.invokestatic idx, 3)) (hp : pc + 3 = pc') (hstk : ((zR 0 :: as).map (zrv (List.range 53))).reverse ++ st = stk) (hna : (zR 0 :: as).length = n) (hd1 : d1 + 1 ≤ d) (hcat : (st.map zcat).sum ≤ 8) (hmc : nc + mc1 ≤ mc) (hms : ns + ms1 ≤ ms)
    (k : ∀ v c1, P v c1 → Wa Y d mc ms n0 Post pc' ls (v :: st) (wCS c1 ++ r) (nc + mc1) (ns + ms1)) : Wa Y d mc ms n0 Post pc ls stk (wCS c0 ++ r) nc ns := by
  refine wa_callSH M hO hhY hlink hd hp (List.range 53) (hsub_pre (w1 := wCS c0) (wCS_ok c0)) List.nodup_range hstk hna hd1 hcat hmc hms (fun o w' h9 => zLP_len o w' h9) (fun E w1' h9 => zLP_x E w1' h9) (fun v1 w1' h9 => ?_)
  obtain ⟨v, c1, h1, h2, rfl⟩ := h9
  have h3 : v1 = some v := Sum.inl.inj h2
  subst h3
  have hz : zins (zre (List.range 53)) (List.range 53) (wCS c1) (wCS c0 ++ r) = wCS c1 ++ r := zins_pre (w1 := wCS c0) rfl (wCS_ok _)
  rw [hz]
  have e : ((some v).map (zrv (List.range 53))).toList ++ st = v :: st := by rw [Option.map_some, hv v c1 h1]; rfl
  rw [e]
  exact k v c1 h1
theorem wy_h {c0 : zCS} {P : zV → zCS → Prop} {idx n : Nat} {h1 : Nat × Nat × Nat × Nat} {ht : List (Nat × Nat × Nat × Nat)} (M : zMet Y1 d1 mc1 ms1 (zR 0 :: as) (wCS c0) (zLP P)) (hv : ∀ v c1, P v c1 → zrv (List.range 53) v = v) (hO : zOkH Y1 n) (hhY : Y1.2.2.2.2 = h1 :: ht) (hlink : Cond.methodLink Y.1.cls idx Y1.1 ∈ lw_tbl) (hd : decode Y.2.1 pc = .ok (.invokestatic idx, 3)) (hp : pc + 3 = pc') (hstk : ((zR 0 :: as).map (zrv (List.range 53))).reverse ++ st = stk) (hna : (zR 0 :: as).length = n) (hd1 : d1 + 1 ≤ d) (hcat : (st.map zcat).sum ≤ 8) (hmc : nc + mc1 ≤ mc) (hms : ns + ms1 ≤ ms)
    (k : ∀ v c1, P v c1 → Wa Y d mc ms n0 Post pc' ls (v :: st) (wCS c1) (nc + mc1) (ns + ms1)) : Wa Y d mc ms n0 Post pc ls stk (wCS c0) nc ns := by
  rw [← List.append_nil (wCS c0)]
  refine wx_h M hv hO hhY hlink hd hp hstk hna hd1 hcat hmc hms (fun v c1 h => ?_)
  rw [List.append_nil]
  exact k v c1 h
/-- a call of a method of the law that takes numbers alone -/
theorem wx_n {v : zV} {idx n : Nat} (M : zMet Y1 d1 0 0 as [] (zD (some v) [])) (hv : zrv [] v = v) (hO : zOkS Y1 n) (hlink : Cond.methodLink Y.1.cls idx Y1.1 ∈ lw_tbl) (hd : decode Y.2.1 pc = .ok (.invokestatic idx, 3)) (hp : pc + 3 = pc') (hstk : (as.map (zrv [])).reverse ++ st = stk) (hna : as.length = n) (hd1 : d1 + 1 ≤ d) (hcat : (st.map zcat).sum ≤ 8) (hh : Y.2.2.2.2 = []) (hmc : nc ≤ mc) (hms : ns ≤ ms)
    (k : Wa Y d mc ms n0 Post pc' ls (v :: st) w nc ns) : Wa Y d mc ms n0 Post pc ls stk w nc ns := by
  refine wa_callS M hO hlink hd hp [] rfl List.nodup_nil hstk hna hd1 hcat hh hmc hms (fun o w' h9 => by rw [h9.2]) (fun E w1' h9 => nomatch h9.1) (fun v1 w1' h9 => ?_)
  obtain ⟨h1, rfl⟩ := h9
  have h3 : v1 = some v := Sum.inl.inj h1
  subst h3
  have hz : zins (zre []) [] [] w = w := zins_of List.nodup_nil rfl rfl (fun _ _ => rfl)
  rw [hz]
  have e : ((some v).map (zrv [])).toList ++ st = v :: st := by rw [Option.map_some, hv]; rfl
  rw [e]
  exact k
end ZSX
section ZSH
variable {Y Y1 : zY} {d d1 mc ms mc1 ms1 n0 : Nat} {Post Post1 : zP → List zE → Prop} {pc pc' : Nat} {ls : List (Nat × zV)} {st stk as : List zV} {w w1 : List zE} {nc ns : Nat} {ρ : List Nat}
theorem hsub_C (c : zCS) : (List.range 53).map (fun i => (wCS c)[i]?) = (wCS c).map fun e => some (zre (List.range 53) e) := by
  have h := hsub_pre (w1 := wCS c) (r := []) (wCS_ok c)
  rw [List.append_nil] at h
  exact h
/-- a call inside a try: it throws, and is caught -/
theorem wy_hx {c0 c1 : zCS} {res : zP × zCS} {E : String} {vc : vw_C} {idx n i pch : Nat} {qi : Fin 4} {ls' : List (Nat × zV)} (x : ExceptionTableEntry) (M : zMet Y1 d1 mc1 ms1 (zR 0 :: as) (wCS c0) (zX res.1 (wCS res.2))) (hr : res = (.inr E, c1)) (hO : zOkV Y1 n) (hlink : Cond.methodLink Y.1.cls idx Y1.1 ∈ lw_tbl) (hd : decode Y.2.1 pc = .ok (.invokevirtual idx, 3)) (hstk : (as.map (zrv (List.range 53))).reverse ++ zR 0 :: st = stk) (hna : as.length = n) (hvc : vwCl[5]? = some vc) (hcls : vc.1 = Y1.1.cls) (hd1 : d1 + 1 ≤ d) (hcat : (st.map zcat).sum ≤ 8) (hmc : nc + mc1 ≤ mc) (hms : ns + ms1 ≤ ms) (hx : zCat Y pc E x) (hq : (qi : Nat) = i) (hi : i < Y.2.2.1) (hda : decode Y.2.1 x.handlerPc = .ok (.astore_n qi, 1)) (hls : zdrop ls i = ls') (hpch : x.handlerPc + 1 = pch)
    (k : Wa Y d mc ms n0 Post pch ls' [] (wCS c1) (nc + mc1) (ns + ms1)) : Wa Y d mc ms n0 Post pc ls stk (wCS c0) nc ns := by
  subst hr
  subst hpch
  refine wa_callX M hO hlink hd rfl (List.range 53) (hsub_C c0) List.nodup_range hstk hna rfl hvc hcls hd1 hcat hmc hms (fun o w' h9 => by rw [h9.2]; rfl) (fun E1 w1' h9 => ?_) (fun v1 w1' h9 => (nomatch h9.1))
  obtain ⟨h1, rfl⟩ := h9
  have h3 : E1 = E := Sum.inr.inj h1
  subst h3
  have hz : zins (zre (List.range 53)) (List.range 53) (wCS c1) (wCS c0) = wCS c1 := zins_idw (w := wCS c0) rfl (wCS_ok _)
  rw [hz]
  exact ⟨x, qi, i, ls', hx, hq, hi, hda, hls, k⟩
/-- a call inside a try that answers -/
theorem wy_hv {c0 c1 : zCS} {res : zP × zCS} {v : zV} {vc : vw_C} {idx n : Nat} (M : zMet Y1 d1 mc1 ms1 (zR 0 :: as) (wCS c0) (zX res.1 (wCS res.2))) (hr : res = (.inl (some v), c1)) (hv : zrv (List.range 53) v = v) (hO : zOkV Y1 n) (hlink : Cond.methodLink Y.1.cls idx Y1.1 ∈ lw_tbl) (hd : decode Y.2.1 pc = .ok (.invokevirtual idx, 3)) (hp : pc + 3 = pc') (hstk : (as.map (zrv (List.range 53))).reverse ++ zR 0 :: st = stk) (hna : as.length = n) (hvc : vwCl[5]? = some vc) (hcls : vc.1 = Y1.1.cls) (hd1 : d1 + 1 ≤ d) (hcat : (st.map zcat).sum ≤ 8) (hmc : nc + mc1 ≤ mc) (hms : ns + ms1 ≤ ms)
    (k : Wa Y d mc ms n0 Post pc' ls (v :: st) (wCS c1) (nc + mc1) (ns + ms1)) : Wa Y d mc ms n0 Post pc ls stk (wCS c0) nc ns := by
  subst hr
  refine wa_callX M hO hlink hd hp (List.range 53) (hsub_C c0) List.nodup_range hstk hna rfl hvc hcls hd1 hcat hmc hms (fun o w' h9 => by rw [h9.2]; rfl) (fun E1 w1' h9 => (nomatch h9.1)) (fun v1 w1' h9 => ?_)
  obtain ⟨h1, rfl⟩ := h9
  have h3 : v1 = some v := Sum.inl.inj h1
  subst h3
  have hz : zins (zre (List.range 53)) (List.range 53) (wCS c1) (wCS c0) = wCS c1 := zins_idw (w := wCS c0) rfl (wCS_ok _)
  rw [hz]
  have e : ((some v).map (zrv (List.range 53))).toList ++ st = v :: st := by rw [Option.map_some, hv]; rfl
  rw [e]
  exact k
/-- a call that answers some int and leaves no world of its own -/
theorem wx_e {idx n : Nat} (M : zMet Y1 d1 0 0 as [] (fun o w' => w' = [] ∧ ∃ a, zin a ∧ o = .inl (some (zI a)))) (hO : zOkS Y1 n) (hlink : Cond.methodLink Y.1.cls idx Y1.1 ∈ lw_tbl) (hd : decode Y.2.1 pc = .ok (.invokestatic idx, 3)) (hp : pc + 3 = pc') (hstk : (as.map (zrv [])).reverse ++ st = stk) (hna : as.length = n) (hd1 : d1 + 1 ≤ d) (hcat : (st.map zcat).sum ≤ 8) (hh : Y.2.2.2.2 = []) (hmc : nc ≤ mc) (hms : ns ≤ ms)
    (k : ∀ a, zin a → Wa Y d mc ms n0 Post pc' ls (zI a :: st) w nc ns) : Wa Y d mc ms n0 Post pc ls stk w nc ns := by
  refine wa_callS M hO hlink hd hp [] rfl List.nodup_nil hstk hna hd1 hcat hh hmc hms (fun o w' h9 => by rw [h9.1]) (fun E w1' h9 => ?_) (fun v1 w1' h9 => ?_)
  · obtain ⟨-, a, -, h⟩ := h9
    exact nomatch h
  · obtain ⟨rfl, a, h1, h2⟩ := h9
    have h3 : v1 = some (zI a) := Sum.inl.inj h2
    subst h3
    have hz : zins (zre []) [] [] w = w := zins_of List.nodup_nil rfl rfl (fun _ _ => rfl)
    rw [hz]
    exact k a h1
end ZSH
/-! the judgement, with the law's script at hand: N ints xs -/
def zCxS (N : Nat) (xs : Nat → Int32) (Y : zY) (d mc ms : Nat) (p : Program) (l : Launch) (R : Room) (s : State) (m : MethodId) (meth : Method) (c : Code) (G : zG) (A : Nat → Prop) : Prop := (G.2.2.2.1 = N ∧ G.2.2.2.2 = xs) ∧ (l.flags = flags0 ∧ (d ≤ R.frames ∧ 34 * d ≤ R.locals ∧ mc ≤ R.cells ∧ ms ≤ R.slots) ∧ p.tables.exec = Jvm.exec ∧ c.code = Y.2.1 ∧ c.maxLocals = Y.2.2.1 ∧ meth.sig.returnType = Y.2.2.2.1 ∧ s.vm.findClass Y.1.cls = some m.cls ∧ meth.locks = false ∧ True ∧ True ∧ zTab s ∧ zEnv G A s s.heap ∧ (∀ q : Nat, s.heap.size ≤ q → A q))
def WL (N : Nat) (xs : Nat → Int32) (Y : zY) (d mc ms n0 : Nat) (Post : zP → List zE → Prop) (pc : Nat) (ls : List (Nat × zV)) (st : List zV) (w : List zE) (nc ns : Nat) : Prop :=
  ∀ (p : Program) (l : Launch) (e : Env) (R : Room) (s : State) (m : MethodId) (args : Array Value) (below : List Frame) (meth : Method) (c : Code) (G : zG) (A : Nat → Prop) (ad0 : Nat → Nat) (Qm : State → Prop),
    zCxS N xs Y d mc ms p l R s m meth c G A → zFin Y mc ms n0 Post p l e R s m args below meth c G A ad0 Qm →
    ∀ (ad : Nat → Nat) (H : Heap) (locs : List Loc) (lsA : Array Slot), n0 ≤ w.length ∧ zAg n0 w.length ad ad0 → zSt G A ad s H locs w → lv_has lsA Y.2.2.1 (zls G.2.2.1 ad ls) →
      W p l e R s m args below meth c H locs nc ns Qm (F0 m pc lsA (st.map (zc G.2.2.1 ad)))
section ZWL
variable {N : Nat} {xs : Nat → Int32} {Y Y1 : zY} {d d1 mc ms mc1 ms1 n0 : Nat} {Post Post1 : zP → List zE → Prop} {pc pc' : Nat} {ls : List (Nat × zV)} {st stk as : List zV} {w w1 : List zE} {nc ns : Nat} {ρ : List Nat}
theorem wl_fold {ls' : List (Nat × zV)} {st' : List zV} {w' : List zE} (h : WL N xs Y d mc ms n0 Post pc ls' st' w' nc ns) (e1 : ls' = ls) (e2 : st' = st) (e3 : w' = w) : WL N xs Y d mc ms n0 Post pc ls st w nc ns := by
  subst e1; subst e2; subst e3; exact h
theorem wl_sub {ls' : List (Nat × zV)} (ks : List Nat) (hk : ks.filterMap (fun k => ls[k]?) = ls') (k : WL N xs Y d mc ms n0 Post pc ls' st w nc ns) : WL N xs Y d mc ms n0 Post pc ls st w nc ns := by
  intro p l e R s m args below meth c G A ad0 Qm C F ad H locs lsA hag hst hl
  refine k p l e R s m args below meth c G A ad0 Qm C F ad H locs lsA hag hst (zls_sub hl ?_)
  intro q hq
  subst hk
  obtain ⟨x, hx, rfl⟩ := List.mem_map.mp hq
  obtain ⟨i, -, hi⟩ := List.mem_filterMap.mp hx
  exact List.mem_map.mpr ⟨x, List.mem_of_getElem? hi, rfl⟩
theorem wl_iload_n {q : Fin 4} {i : Nat} {x : Int} (hd : decode Y.2.1 pc = .ok (.iload_n q, 1)) (hp : pc + 1 = pc') (hi : (q : Nat) = i) (hg : zget ls i = some (zI x)) (k : WL N xs Y d mc ms n0 Post pc' ls (zI x :: st) w nc ns) : WL N xs Y d mc ms n0 Post pc ls st w nc ns := by
  subst hp
  intro p l e R s m args below meth c G A ad0 Qm C F ad H locs lsA hag hst hl
  have kk := k p l e R s m args below meth c G A ad0 Qm C F ad H locs lsA hag hst hl
  obtain ⟨-, -, hx, hb, -⟩ := C.2
  exact lv_iload_n hx hb hd hi (zget_at hl hg) kk
theorem wl_iload {i : Nat} {x : Int} (hd : decode Y.2.1 pc = .ok (.iload i, 2)) (hp : pc + 2 = pc') (hg : zget ls i = some (zI x)) (k : WL N xs Y d mc ms n0 Post pc' ls (zI x :: st) w nc ns) : WL N xs Y d mc ms n0 Post pc ls st w nc ns := by
  subst hp
  intro p l e R s m args below meth c G A ad0 Qm C F ad H locs lsA hag hst hl
  have kk := k p l e R s m args below meth c G A ad0 Qm C F ad H locs lsA hag hst hl
  obtain ⟨-, -, hx, hb, -⟩ := C.2
  exact lv_iload hx hb hd (zget_at hl hg) kk
theorem wl_aload_n {q : Fin 4} {i : Nat} {x : Option (Nat ⊕ Nat)} (hd : decode Y.2.1 pc = .ok (.aload_n q, 1)) (hp : pc + 1 = pc') (hi : (q : Nat) = i) (hg : zget ls i = some (.inr (.inr x))) (k : WL N xs Y d mc ms n0 Post pc' ls (.inr (.inr x) :: st) w nc ns) : WL N xs Y d mc ms n0 Post pc ls st w nc ns := by
  subst hp
  intro p l e R s m args below meth c G A ad0 Qm C F ad H locs lsA hag hst hl
  have kk := k p l e R s m args below meth c G A ad0 Qm C F ad H locs lsA hag hst hl
  obtain ⟨-, -, hx, hb, -⟩ := C.2
  have hg' := zget_at hl hg
  rcases x with _ | k9 | k9
  · exact lv_aload_nN hx hb hd hi hg' kk
  · exact lv_aload_n hx hb hd hi hg' kk
  · exact lv_aload_n hx hb hd hi hg' kk
theorem wl_astore_n {q : Fin 4} {i : Nat} {x : Option (Nat ⊕ Nat)} {ls' : List (Nat × zV)} (hd : decode Y.2.1 pc = .ok (.astore_n q, 1)) (hp : pc + 1 = pc') (hi : (q : Nat) = i) (hn : i < Y.2.2.1) (hl9 : zput1 ls i (.inr (.inr x)) = ls') (k : WL N xs Y d mc ms n0 Post pc' ls' st w nc ns) : WL N xs Y d mc ms n0 Post pc ls (.inr (.inr x) :: st) w nc ns := by
  subst hl9
  subst hp
  intro p l e R s m args below meth c G A ad0 Qm C F ad H locs lsA hag hst hl
  have kk := fun lsA' hl' => k p l e R s m args below meth c G A ad0 Qm C F ad H locs lsA' hag hst hl'
  obtain ⟨-, -, hx, hb, -⟩ := C.2
  rcases x with _ | k9 | k9
  · exact lv_astore_nN hx hb hd hi hl hn (zput1_c G.2.2.1 ad ls i zN) (fun lsA' hl' => kk lsA' hl')
  · exact lv_astore_n hx hb hd hi hl hn (zput1_c G.2.2.1 ad ls i (zR k9)) (fun lsA' hl' => kk lsA' hl')
  · exact lv_astore_n hx hb hd hi hl hn (zput1_c G.2.2.1 ad ls i (zK k9)) (fun lsA' hl' => kk lsA' hl')
theorem wl_istore_n {q : Fin 4} {i : Nat} {x : Int} {ls' : List (Nat × zV)} (hd : decode Y.2.1 pc = .ok (.istore_n q, 1)) (hp : pc + 1 = pc') (hi : (q : Nat) = i) (hn : i < Y.2.2.1) (hl9 : zput1 ls i (zI x) = ls') (k : WL N xs Y d mc ms n0 Post pc' ls' st w nc ns) : WL N xs Y d mc ms n0 Post pc ls (zI x :: st) w nc ns := by
  subst hl9
  subst hp
  intro p l e R s m args below meth c G A ad0 Qm C F ad H locs lsA hag hst hl
  have kk := fun lsA' hl' => k p l e R s m args below meth c G A ad0 Qm C F ad H locs lsA' hag hst hl'
  obtain ⟨-, -, hx, hb, -⟩ := C.2
  exact lv_istore_n hx hb hd hi hl hn (zput1_c G.2.2.1 ad ls i (zI x)) (fun lsA' hl' => kk lsA' hl')
theorem wl_istore {i : Nat} {x : Int} {ls' : List (Nat × zV)} (hd : decode Y.2.1 pc = .ok (.istore i, 2)) (hp : pc + 2 = pc') (hn : i < Y.2.2.1) (hl9 : zput1 ls i (zI x) = ls') (k : WL N xs Y d mc ms n0 Post pc' ls' st w nc ns) : WL N xs Y d mc ms n0 Post pc ls (zI x :: st) w nc ns := by
  subst hl9
  subst hp
  intro p l e R s m args below meth c G A ad0 Qm C F ad H locs lsA hag hst hl
  have kk := fun lsA' hl' => k p l e R s m args below meth c G A ad0 Qm C F ad H locs lsA' hag hst hl'
  obtain ⟨-, -, hx, hb, -⟩ := C.2
  exact lv_istore hx hb hd hl hn (zput1_c G.2.2.1 ad ls i (zI x)) (fun lsA' hl' => kk lsA' hl')
theorem wl_iconst {n : Int} (hd : decode Y.2.1 pc = .ok (.iconst n, 1)) (hp : pc + 1 = pc') (k : WL N xs Y d mc ms n0 Post pc' ls (zI n :: st) w nc ns) : WL N xs Y d mc ms n0 Post pc ls st w nc ns := by
  subst hp
  intro p l e R s m args below meth c G A ad0 Qm C F ad H locs lsA hag hst hl
  have kk := k p l e R s m args below meth c G A ad0 Qm C F ad H locs lsA hag hst hl
  obtain ⟨-, -, hx, hb, -⟩ := C.2
  exact lv_iconst hx hb hd rfl kk
theorem wl_bipush {n : Int} (hd : decode Y.2.1 pc = .ok (.bipush n, 2)) (hp : pc + 2 = pc') (hv : (Int8.ofInt n).toInt32 = Int32.ofInt n) (k : WL N xs Y d mc ms n0 Post pc' ls (zI n :: st) w nc ns) : WL N xs Y d mc ms n0 Post pc ls st w nc ns := by
  subst hp
  intro p l e R s m args below meth c G A ad0 Qm C F ad H locs lsA hag hst hl
  have kk := k p l e R s m args below meth c G A ad0 Qm C F ad H locs lsA hag hst hl
  obtain ⟨-, -, hx, hb, -⟩ := C.2
  exact lv_bipush hx hb hd hv kk
theorem wl_iadd {a b : Int} (hd : decode Y.2.1 pc = .ok (.iadd, 1)) (hp : pc + 1 = pc') (k : WL N xs Y d mc ms n0 Post pc' ls (zI (a + b) :: st) w nc ns) : WL N xs Y d mc ms n0 Post pc ls (zI b :: zI a :: st) w nc ns := by
  subst hp
  intro p l e R s m args below meth c G A ad0 Qm C F ad H locs lsA hag hst hl
  have kk := k p l e R s m args below meth c G A ad0 Qm C F ad H locs lsA hag hst hl
  obtain ⟨-, -, hx, hb, -⟩ := C.2
  refine lv_iadd hx hb hd ?_
  rw [← Int32.ofInt_add]
  exact kk
theorem wl_isub {a b : Int} (hd : decode Y.2.1 pc = .ok (.isub, 1)) (hp : pc + 1 = pc') (k : WL N xs Y d mc ms n0 Post pc' ls (zI (a - b) :: st) w nc ns) : WL N xs Y d mc ms n0 Post pc ls (zI b :: zI a :: st) w nc ns := by
  subst hp
  intro p l e R s m args below meth c G A ad0 Qm C F ad H locs lsA hag hst hl
  have kk := k p l e R s m args below meth c G A ad0 Qm C F ad H locs lsA hag hst hl
  obtain ⟨-, -, hx, hb, -⟩ := C.2
  refine lv_isub hx hb hd ?_
  rw [← Int32.ofInt_sub]
  exact kk
theorem wl_imul {a b : Int} (hd : decode Y.2.1 pc = .ok (.imul, 1)) (hp : pc + 1 = pc') (k : WL N xs Y d mc ms n0 Post pc' ls (zI (a * b) :: st) w nc ns) : WL N xs Y d mc ms n0 Post pc ls (zI b :: zI a :: st) w nc ns := by
  subst hp
  intro p l e R s m args below meth c G A ad0 Qm C F ad H locs lsA hag hst hl
  have kk := k p l e R s m args below meth c G A ad0 Qm C F ad H locs lsA hag hst hl
  obtain ⟨-, -, hx, hb, -⟩ := C.2
  refine lv_imul hx hb hd ?_
  rw [← Int32.ofInt_mul]
  exact kk
theorem wl_ldcI {idx : Nat} {n : Int} (hd : decode Y.2.1 pc = .ok (.ldc idx, 2)) (hp : pc + 2 = pc') (hk : Cond.constant Y.1.cls idx (Int32.ofInt n) ∈ lw_tbl) (k : WL N xs Y d mc ms n0 Post pc' ls (zI n :: st) w nc ns) : WL N xs Y d mc ms n0 Post pc ls st w nc ns := by
  subst hp
  intro p l e R s m args below meth c G A ad0 Qm C F ad H locs lsA hag hst hl
  have kk := k p l e R s m args below meth c G A ad0 Qm C F ad H locs lsA hag hst hl
  obtain ⟨-, hR, hx, hb, hml, -, hown, -, -, -, hT, hE, -⟩ := C.2
  exact lv_ldc hx hb hown (hT.at hk (zgood_c _ rfl) _) hd kk
theorem wl_goto {off : Int} (hd : decode Y.2.1 pc = .ok (.goto off, 3)) (ht : (pc : Int) + off = (pc' : Int)) (k : WL N xs Y d mc ms n0 Post pc' ls st w nc ns) : WL N xs Y d mc ms n0 Post pc ls st w nc ns := by
  intro p l e R s m args below meth c G A ad0 Qm C F ad H locs lsA hag hst hl
  have kk := k p l e R s m args below meth c G A ad0 Qm C F ad H locs lsA hag hst hl
  obtain ⟨-, -, hx, hb, -⟩ := C.2
  exact lv_goto hx hb hd ht kk
theorem wl_icmp_lt {off : Int} {tgt : Nat} {a b : Int} (hd : decode Y.2.1 pc = .ok (.if_icmp .lt off, 3)) (ht : (pc : Int) + off = (tgt : Int)) (hp : pc + 3 = pc') (ha : zin a) (hb9 : zin b) (kt : a < b → WL N xs Y d mc ms n0 Post tgt ls st w nc ns) (kf : ¬ (a < b) → WL N xs Y d mc ms n0 Post pc' ls st w nc ns) : WL N xs Y d mc ms n0 Post pc ls (zI b :: zI a :: st) w nc ns := by
  subst hp
  intro p l e R s m args below meth c G A ad0 Qm C F ad H locs lsA hag hst hl
  have kkt := fun h => kt h p l e R s m args below meth c G A ad0 Qm C F ad H locs lsA hag hst hl
  have kkf := fun h => kf h p l e R s m args below meth c G A ad0 Qm C F ad H locs lsA hag hst hl
  obtain ⟨-, -, hx, hb, -⟩ := C.2
  exact lv_icmp_lt hx hb hd ht (fun h => kkt ((zi_lt ha hb9).mp h)) (fun h => kkf (fun h2 => h ((zi_lt ha hb9).mpr h2)))
theorem wl_icmp_ge {off : Int} {tgt : Nat} {a b : Int} (hd : decode Y.2.1 pc = .ok (.if_icmp .ge off, 3)) (ht : (pc : Int) + off = (tgt : Int)) (hp : pc + 3 = pc') (ha : zin a) (hb9 : zin b) (kt : b ≤ a → WL N xs Y d mc ms n0 Post tgt ls st w nc ns) (kf : ¬ (b ≤ a) → WL N xs Y d mc ms n0 Post pc' ls st w nc ns) : WL N xs Y d mc ms n0 Post pc ls (zI b :: zI a :: st) w nc ns := by
  subst hp
  intro p l e R s m args below meth c G A ad0 Qm C F ad H locs lsA hag hst hl
  have kkt := fun h => kt h p l e R s m args below meth c G A ad0 Qm C F ad H locs lsA hag hst hl
  have kkf := fun h => kf h p l e R s m args below meth c G A ad0 Qm C F ad H locs lsA hag hst hl
  obtain ⟨-, -, hx, hb, -⟩ := C.2
  exact lv_icmp_ge hx hb hd ht (fun h => kkt ((zi_le hb9 ha).mp h)) (fun h => kkf (fun h2 => h ((zi_le hb9 ha).mpr h2)))
theorem wl_icmp_ne {off : Int} {tgt : Nat} {a b : Int} (hd : decode Y.2.1 pc = .ok (.if_icmp .ne off, 3)) (ht : (pc : Int) + off = (tgt : Int)) (hp : pc + 3 = pc') (ha : zin a) (hb9 : zin b) (kt : ¬ a = b → WL N xs Y d mc ms n0 Post tgt ls st w nc ns) (kf : a = b → WL N xs Y d mc ms n0 Post pc' ls st w nc ns) : WL N xs Y d mc ms n0 Post pc ls (zI b :: zI a :: st) w nc ns := by
  subst hp
  intro p l e R s m args below meth c G A ad0 Qm C F ad H locs lsA hag hst hl
  have kkt := fun h => kt h p l e R s m args below meth c G A ad0 Qm C F ad H locs lsA hag hst hl
  have kkf := fun h => kf h p l e R s m args below meth c G A ad0 Qm C F ad H locs lsA hag hst hl
  obtain ⟨-, -, hx, hb, -⟩ := C.2
  exact lv_icmp_ne hx hb hd ht (fun h => kkt (fun h2 => h ((zi_eq ha hb9).mpr h2))) (fun h => kkf ((zi_eq ha hb9).mp h))
theorem wl_icmp_eq {off : Int} {tgt : Nat} {a b : Int} (hd : decode Y.2.1 pc = .ok (.if_icmp .eq off, 3)) (ht : (pc : Int) + off = (tgt : Int)) (hp : pc + 3 = pc') (ha : zin a) (hb9 : zin b) (kt : a = b → WL N xs Y d mc ms n0 Post tgt ls st w nc ns) (kf : ¬ (a = b) → WL N xs Y d mc ms n0 Post pc' ls st w nc ns) : WL N xs Y d mc ms n0 Post pc ls (zI b :: zI a :: st) w nc ns := by
  subst hp
  intro p l e R s m args below meth c G A ad0 Qm C F ad H locs lsA hag hst hl
  have kkt := fun h => kt h p l e R s m args below meth c G A ad0 Qm C F ad H locs lsA hag hst hl
  have kkf := fun h => kf h p l e R s m args below meth c G A ad0 Qm C F ad H locs lsA hag hst hl
  obtain ⟨-, -, hx, hb, -⟩ := C.2
  exact lv_icmp_eq hx hb hd ht (fun h => kkt ((zi_eq ha hb9).mp h)) (fun h => kkf (fun h2 => h ((zi_eq ha hb9).mpr h2)))
theorem wl_if_ne {off : Int} {tgt : Nat} {a : Int} (hd : decode Y.2.1 pc = .ok (.ifCond .ne off, 3)) (ht : (pc : Int) + off = (tgt : Int)) (hp : pc + 3 = pc') (ha : zin a) (kt : ¬ a = 0 → WL N xs Y d mc ms n0 Post tgt ls st w nc ns) (kf : a = 0 → WL N xs Y d mc ms n0 Post pc' ls st w nc ns) : WL N xs Y d mc ms n0 Post pc ls (zI a :: st) w nc ns := by
  subst hp
  intro p l e R s m args below meth c G A ad0 Qm C F ad H locs lsA hag hst hl
  have kkt := fun h => kt h p l e R s m args below meth c G A ad0 Qm C F ad H locs lsA hag hst hl
  have kkf := fun h => kf h p l e R s m args below meth c G A ad0 Qm C F ad H locs lsA hag hst hl
  obtain ⟨-, -, hx, hb, -⟩ := C.2
  have z0 : zin 0 := ⟨by omega, by omega⟩
  exact lv_if_ne hx hb hd ht (fun h => kkt (fun h2 => h ((zi_eq ha z0).mpr h2))) (fun h => kkf ((zi_eq ha z0).mp h))
theorem wl_if_eq {off : Int} {tgt : Nat} {a : Int} (hd : decode Y.2.1 pc = .ok (.ifCond .eq off, 3)) (ht : (pc : Int) + off = (tgt : Int)) (hp : pc + 3 = pc') (ha : zin a) (kt : a = 0 → WL N xs Y d mc ms n0 Post tgt ls st w nc ns) (kf : ¬ (a = 0) → WL N xs Y d mc ms n0 Post pc' ls st w nc ns) : WL N xs Y d mc ms n0 Post pc ls (zI a :: st) w nc ns := by
  subst hp
  intro p l e R s m args below meth c G A ad0 Qm C F ad H locs lsA hag hst hl
  have kkt := fun h => kt h p l e R s m args below meth c G A ad0 Qm C F ad H locs lsA hag hst hl
  have kkf := fun h => kf h p l e R s m args below meth c G A ad0 Qm C F ad H locs lsA hag hst hl
  obtain ⟨-, -, hx, hb, -⟩ := C.2
  have z0 : zin 0 := ⟨by omega, by omega⟩
  exact lv_if_eq hx hb hd ht (fun h => kkt ((zi_eq ha z0).mp h)) (fun h => kkf (fun h2 => h ((zi_eq ha z0).mpr h2)))
theorem wl_if_lt {off : Int} {tgt : Nat} {a : Int} (hd : decode Y.2.1 pc = .ok (.ifCond .lt off, 3)) (ht : (pc : Int) + off = (tgt : Int)) (hp : pc + 3 = pc') (ha : zin a) (kt : a < 0 → WL N xs Y d mc ms n0 Post tgt ls st w nc ns) (kf : ¬ (a < 0) → WL N xs Y d mc ms n0 Post pc' ls st w nc ns) : WL N xs Y d mc ms n0 Post pc ls (zI a :: st) w nc ns := by
  subst hp
  intro p l e R s m args below meth c G A ad0 Qm C F ad H locs lsA hag hst hl
  have kkt := fun h => kt h p l e R s m args below meth c G A ad0 Qm C F ad H locs lsA hag hst hl
  have kkf := fun h => kf h p l e R s m args below meth c G A ad0 Qm C F ad H locs lsA hag hst hl
  obtain ⟨-, -, hx, hb, -⟩ := C.2
  have z0 : zin 0 := ⟨by omega, by omega⟩
  exact lv_if_lt hx hb hd ht (fun h => kkt ((zi_lt ha z0).mp h)) (fun h => kkf (fun h2 => h ((zi_lt ha z0).mpr h2)))
theorem wl_if_ge {off : Int} {tgt : Nat} {a : Int} (hd : decode Y.2.1 pc = .ok (.ifCond .ge off, 3)) (ht : (pc : Int) + off = (tgt : Int)) (hp : pc + 3 = pc') (ha : zin a) (kt : 0 ≤ a → WL N xs Y d mc ms n0 Post tgt ls st w nc ns) (kf : ¬ (0 ≤ a) → WL N xs Y d mc ms n0 Post pc' ls st w nc ns) : WL N xs Y d mc ms n0 Post pc ls (zI a :: st) w nc ns := by
  subst hp
  intro p l e R s m args below meth c G A ad0 Qm C F ad H locs lsA hag hst hl
  have kkt := fun h => kt h p l e R s m args below meth c G A ad0 Qm C F ad H locs lsA hag hst hl
  have kkf := fun h => kf h p l e R s m args below meth c G A ad0 Qm C F ad H locs lsA hag hst hl
  obtain ⟨-, -, hx, hb, -⟩ := C.2
  have z0 : zin 0 := ⟨by omega, by omega⟩
  exact lv_if_ge hx hb hd ht (fun h => kkt ((zi_le z0 ha).mp h)) (fun h => kkf (fun h2 => h ((zi_le z0 ha).mpr h2)))
theorem wl_if_gt {off : Int} {tgt : Nat} {a : Int} (hd : decode Y.2.1 pc = .ok (.ifCond .gt off, 3)) (ht : (pc : Int) + off = (tgt : Int)) (hp : pc + 3 = pc') (ha : zin a) (kt : 0 < a → WL N xs Y d mc ms n0 Post tgt ls st w nc ns) (kf : ¬ (0 < a) → WL N xs Y d mc ms n0 Post pc' ls st w nc ns) : WL N xs Y d mc ms n0 Post pc ls (zI a :: st) w nc ns := by
  subst hp
  intro p l e R s m args below meth c G A ad0 Qm C F ad H locs lsA hag hst hl
  have kkt := fun h => kt h p l e R s m args below meth c G A ad0 Qm C F ad H locs lsA hag hst hl
  have kkf := fun h => kf h p l e R s m args below meth c G A ad0 Qm C F ad H locs lsA hag hst hl
  obtain ⟨-, -, hx, hb, -⟩ := C.2
  have z0 : zin 0 := ⟨by omega, by omega⟩
  exact lv_if_gt hx hb hd ht (fun h => kkt ((zi_lt z0 ha).mp h)) (fun h => kkf (fun h2 => h ((zi_lt z0 ha).mpr h2)))
theorem wl_if_le {off : Int} {tgt : Nat} {a : Int} (hd : decode Y.2.1 pc = .ok (.ifCond .le off, 3)) (ht : (pc : Int) + off = (tgt : Int)) (hp : pc + 3 = pc') (ha : zin a) (kt : a ≤ 0 → WL N xs Y d mc ms n0 Post tgt ls st w nc ns) (kf : ¬ (a ≤ 0) → WL N xs Y d mc ms n0 Post pc' ls st w nc ns) : WL N xs Y d mc ms n0 Post pc ls (zI a :: st) w nc ns := by
  subst hp
  intro p l e R s m args below meth c G A ad0 Qm C F ad H locs lsA hag hst hl
  have kkt := fun h => kt h p l e R s m args below meth c G A ad0 Qm C F ad H locs lsA hag hst hl
  have kkf := fun h => kf h p l e R s m args below meth c G A ad0 Qm C F ad H locs lsA hag hst hl
  obtain ⟨-, -, hx, hb, -⟩ := C.2
  have z0 : zin 0 := ⟨by omega, by omega⟩
  exact lv_if_le hx hb hd ht (fun h => kkt ((zi_le ha z0).mp h)) (fun h => kkf (fun h2 => h ((zi_le ha z0).mpr h2)))
theorem wl_wrap {a b : Int} (h : Int32.ofInt a = Int32.ofInt b) (k : WL N xs Y d mc ms n0 Post pc ls (zI b :: st) w nc ns) : WL N xs Y d mc ms n0 Post pc ls (zI a :: st) w nc ns := by
  intro p l e R s m args below meth c G A ad0 Qm C F ad H locs lsA hag hst hl
  have kk := k p l e R s m args below meth c G A ad0 Qm C F ad H locs lsA hag hst hl
  have e1 : zc G.2.2.1 ad (zI a) = zc G.2.2.1 ad (zI b) := congrArg Value.int h
  rw [List.map_cons, e1, ← List.map_cons]
  exact kk
theorem zl_go {p : Program} {l : Launch} {e : Env} {R : Room} {s : State} {m : MethodId} {args : Array Value} {below : List Frame} {meth : Method} {c : Code} {G : zG} {A : Nat → Prop} {ad0 ad : Nat → Nat} {Qm : State → Prop} {H : Heap} {locs : List Loc} {lsA : Array Slot} {stv : List Value} {a : Array Value}
    (C9 : zCxS N xs Y d mc ms p l R s m meth c G A) (F : zFin Y mc ms n0 Post p l e R s m args below meth c G A ad0 Qm) (hag : n0 ≤ w.length ∧ zAg n0 w.length ad ad0) (hst : zSt G A ad s H locs w) (hl : lv_has lsA Y.2.2.1 (zls G.2.2.1 ad ls))
    (hsub : ρ.map (fun i => w[i]?) = w1.map fun e => some (zre ρ e)) (hn : ρ.Nodup) (hlen : ∀ o w', Post1 o w' → w'.length = w1.length)
    (hr : vx_Run p l e R s m args below meth c H locs nc ns mc1 ms1 (F0 m pc lsA stv) (st.map (zc G.2.2.1 ad)) (zQc G (fun k => ad (ρ.getD k 0)) H.size w1 Post1 a) (zXC G (va_A (zw G (fun k => ad (ρ.getD k 0)) w1) H.size) (fun k => ad (ρ.getD k 0)) w1.length Post1) (va_A (zw G (fun k => ad (ρ.getD k 0)) w1) H.size))
    (kx : ∀ (E : String) (w1' : List zE) (H1 : Heap) (locs1 : List Loc) (q : Addr) (ce : Cell), Post1 (.inr E) w1' → zSt G A ad s H1 locs1 (zins (zre ρ) ρ w1' w) → H1[q]? = some ce → ce.vm = .none → s.vm.findClass E = some ce.cls → vx_W p l e R s m args below meth c H1 locs1 (nc + mc1) (ns + ms1) Qm (F0 m pc lsA (st.map (zc G.2.2.1 ad))) q)
    (k : ∀ (v : Option zV) (w1' : List zE), Post1 (.inl v) w1' → WL N xs Y d mc ms n0 Post (pc + 3) ls ((v.map (zrv ρ)).toList ++ st) (zins (zre ρ) ρ w1' w) (nc + mc1) (ns + ms1)) :
    W p l e R s m args below meth c H locs nc ns Qm (F0 m pc lsA stv) := by
  obtain ⟨hfl, hR, hx, hb, hml, hr9, hown, hlk, hnm, htb, hT, hE, hA⟩ := id C9.2
  obtain ⟨hP, hD, hS⟩ := id hst
  have hF : ∀ q, va_A (zw G (fun k => ad (ρ.getD k 0)) w1) H.size q → A q := z_preA hsub hD hS hA
  intro T hT9 X
  rcases hr T hT9 X with ⟨v, st₀, t, T', L, h0, X', hL, e1, e2, ⟨⟨v1, w1', ad1, hv, hp, hle, hag1, hP1, hD1⟩, hF1⟩, stp⟩ | ⟨q, st₀, t, T', L, E, ce, h0, X', hL, e1, e2, ⟨⟨w1', ad1, hp, hle, hag1, hP1, hD1⟩, hF1⟩, hce, hcv, hcl, stp⟩
  · cases hv
    have hl1 := hlen _ _ hp
    have had : ad1 = fun k => ad (ρ.getD k 0) := by
      funext k
      exact hag1 k (by rw [hl1]; omega)
    subst had
    obtain ⟨k1, k2, k3⟩ := vx_keep h0 e1 hS (fun q _ h => hF q h) hF hL hF1
    have hP2 : va_P G.1 vwCl (zw G ad (zins (zre ρ) ρ w1' w)) T'.heap := z_back hsub hn hl1 hP hD k2 (by rw [e1]; exact hP1)
    have hD2 : va_D A (zw G ad (zins (zre ρ) ρ w1' w)) := zD_len hD (zins_len _ _ _ _)
    have hkk := k v1 w1' hp p l e R s m args below meth c G A ad0 Qm C9 F ad T'.heap (locs ++ L) lsA (by rw [zins_len]; exact hag) ⟨hP2, hD2, k3⟩ hl
    obtain ⟨t2, a1, b1⟩ := hkk T' rfl X'
    refine ⟨t2, stp t2 ?_, b1⟩
    have e9 : (v1.map (zc G.2.2.1 (fun k => ad (ρ.getD k 0)))).toList ++ st.map (zc G.2.2.1 ad) = ((v1.map (zrv ρ)).toList ++ st).map (zc G.2.2.1 ad) := by
      cases v1 with
      | none => rfl
      | some v => simp only [Option.map_some, Option.toList_some, List.cons_append, List.nil_append, List.map_cons, zc_ren]
    rw [e9]
    exact a1
  · have hl1 := hlen _ _ hp
    have had : ad1 = fun k => ad (ρ.getD k 0) := by
      funext k
      exact hag1 k (by rw [hl1]; omega)
    subst had
    obtain ⟨k1, k2, k3⟩ := vx_keep h0 e1 hS (fun q _ h => hF q h) hF hL hF1
    have hP2 : va_P G.1 vwCl (zw G ad (zins (zre ρ) ρ w1' w)) T'.heap := z_back hsub hn hl1 hP hD k2 (by rw [e1]; exact hP1)
    have hD2 : va_D A (zw G ad (zins (zre ρ) ρ w1' w)) := zD_len hD (zins_len _ _ _ _)
    obtain ⟨t2, a1, b1⟩ := kx E w1' T'.heap (locs ++ L) q ce hp ⟨hP2, hD2, k3⟩ (by rw [e1]; exact hce) hcv hcl T' rfl X'
    exact ⟨t2, stp.trans a1, b1⟩
theorem wl_callV {q ci : Nat} {fs : List zV} {vc : vw_C} {idx n : Nat} (M : zMet Y1 d1 mc1 ms1 (zR q :: as) w1 Post1) (hO : zOkV Y1 n) (hlink : Cond.methodLink Y.1.cls idx Y1.1 ∈ lw_tbl) (hd : decode Y.2.1 pc = .ok (.invokevirtual idx, 3)) (hp : pc + 3 = pc') (ρ : List Nat) (hsub : ρ.map (fun i => w[i]?) = w1.map fun e => some (zre ρ e)) (hn : ρ.Nodup) (hstk : (as.map (zrv ρ)).reverse ++ zR (ρ.getD q 0) :: st = stk) (hna : as.length = n) (hq : w1[q]? = some (zO ci fs)) (hvc : vwCl[ci]? = some vc) (hcls : vc.1 = Y1.1.cls) (hd1 : d1 + 1 ≤ d) (hcat : (st.map zcat).sum ≤ 8) (hh : Y.2.2.2.2 = []) (hmc : nc + mc1 ≤ mc) (hms : ns + ms1 ≤ ms) (hlen : ∀ o w', Post1 o w' → w'.length = w1.length)
    (kx : ∀ (E : String) (w1' : List zE), ¬ Post1 (.inr E) w1')
    (k : ∀ (v : Option zV) (w1' : List zE), Post1 (.inl v) w1' → WL N xs Y d mc ms n0 Post pc' ls ((v.map (zrv ρ)).toList ++ st) (zins (zre ρ) ρ w1' w) (nc + mc1) (ns + ms1)) : WL N xs Y d mc ms n0 Post pc ls stk w nc ns := by
  subst hp
  subst hstk
  intro p l e R s m args below meth c G A ad0 Qm C9 F ad H locs lsA hag hst hl
  obtain ⟨hfl, hR, hx, hb, hml, hr9, hown, hlk, hnm, htb, hT, hE, hA⟩ := id C9.2
  refine zl_go C9 F hag hst hl hsub hn hlen (a := ((zR q :: as).map (zc G.2.2.1 (fun k => ad (ρ.getD k 0)))).toArray) ?_ (fun E w1' H1 locs1 q ce hp1 hst1 hce hcv hcl => absurd hp1 (kx E w1')) k
  refine vx_runV (As := as.map (zc G.2.2.1 (fun k => ad (ρ.getD k 0)))) (b := ad (ρ.getD q 0)) (C := Y1.1.cls) (cc := Y.2.1) (nL := Y.2.2.1) (Ts := []) ⟨hx, hb, hml, hown, fun _ h => nomatch h⟩ (M l G (fun k => ad (ρ.getD k 0)) H.size hfl) ⟨z_cb hO.1 hT hlink hd1 hR, hT.at hO.2.1 (zgood_c _ rfl) _, hT.at hO.2.2 (zgood_c _ rfl) _⟩ ⟨(z_pre hsub hn hst hE hT hA).1, ?_, (z_pre (as := zR q :: as) hsub hn hst hE hT hA).2⟩ rfl (by rw [List.length_map]; exact hna) hl.1 ?_ (lv_room (z_cat hcat)) hd ⟨by omega, by omega⟩
  · obtain ⟨cell, g1, g2, g3⟩ := va_recv hE.1.1 (z_partP (ad := ad) hsub hst.1) hvc (zw_get hq)
    exact ⟨cell, g1, g2, by rw [← hcls]; exact g3⟩
  · show List.map _ _ = _
    rw [List.map_append, List.map_reverse, z_map]
    rfl
theorem wl_callS {idx n : Nat} (M : zMet Y1 d1 mc1 ms1 as w1 Post1) (hO : zOkS Y1 n) (hlink : Cond.methodLink Y.1.cls idx Y1.1 ∈ lw_tbl) (hd : decode Y.2.1 pc = .ok (.invokestatic idx, 3)) (hp : pc + 3 = pc') (ρ : List Nat) (hsub : ρ.map (fun i => w[i]?) = w1.map fun e => some (zre ρ e)) (hn : ρ.Nodup) (hstk : (as.map (zrv ρ)).reverse ++ st = stk) (hna : as.length = n) (hd1 : d1 + 1 ≤ d) (hcat : (st.map zcat).sum ≤ 8) (hh : Y.2.2.2.2 = []) (hmc : nc + mc1 ≤ mc) (hms : ns + ms1 ≤ ms) (hlen : ∀ o w', Post1 o w' → w'.length = w1.length)
    (kx : ∀ (E : String) (w1' : List zE), ¬ Post1 (.inr E) w1')
    (k : ∀ (v : Option zV) (w1' : List zE), Post1 (.inl v) w1' → WL N xs Y d mc ms n0 Post pc' ls ((v.map (zrv ρ)).toList ++ st) (zins (zre ρ) ρ w1' w) (nc + mc1) (ns + ms1)) : WL N xs Y d mc ms n0 Post pc ls stk w nc ns := by
  subst hp
  subst hstk
  intro p l e R s m args below meth c G A ad0 Qm C9 F ad H locs lsA hag hst hl
  obtain ⟨hfl, hR, hx, hb, hml, hr9, hown, hlk, hnm, htb, hT, hE, hA⟩ := id C9.2
  refine zl_go C9 F hag hst hl hsub hn hlen (a := (as.map (zc G.2.2.1 (fun k => ad (ρ.getD k 0)))).toArray) ?_ (fun E w1' H1 locs1 q ce hp1 hst1 hce hcv hcl => absurd hp1 (kx E w1')) k
  refine vx_runS (As := as.map (zc G.2.2.1 (fun k => ad (ρ.getD k 0)))) (cc := Y.2.1) (nL := Y.2.2.1) (Ts := []) ⟨hx, hb, hml, hown, fun _ h => nomatch h⟩ (M l G (fun k => ad (ρ.getD k 0)) H.size hfl) ⟨z_cb hO.1 hT hlink hd1 hR, hT.at hO.2 (zgood_c _ rfl) _⟩ (z_pre hsub hn hst hE hT hA) rfl (by rw [List.length_map]; exact hna) hl.1 ?_ (lv_room (z_cat hcat)) hd ⟨by omega, by omega⟩
  · show List.map _ _ = _
    rw [List.map_append, List.map_reverse, z_map]
theorem wl_iand {a b : Int} (hd : decode Y.2.1 pc = .ok (.iand, 1)) (hp : pc + 1 = pc') (k : WL N xs Y d mc ms n0 Post pc' ls (zI (zand a b) :: st) w nc ns) : WL N xs Y d mc ms n0 Post pc ls (zI b :: zI a :: st) w nc ns := by
  subst hp
  intro p l e R s m args below meth c G A ad0 Qm C F ad H locs lsA hag hst hl
  have kk := k p l e R s m args below meth c G A ad0 Qm C F ad H locs lsA hag hst hl
  obtain ⟨-, hR, hx, hb, hml, -, hown, -, -, -, hT, hE, -⟩ := C.2
  refine lv_iand hx hb hd ?_
  have e9 : zc G.2.2.1 ad (zI (zand a b)) = .int _ := congrArg Value.int (Int32.ofInt_toInt _)
  rw [← e9]
  exact kk
theorem wl_ishr {a b : Int} (hd : decode Y.2.1 pc = .ok (.ishr, 1)) (hp : pc + 1 = pc') (k : WL N xs Y d mc ms n0 Post pc' ls (zI (zshr a b) :: st) w nc ns) : WL N xs Y d mc ms n0 Post pc ls (zI b :: zI a :: st) w nc ns := by
  subst hp
  intro p l e R s m args below meth c G A ad0 Qm C F ad H locs lsA hag hst hl
  have kk := k p l e R s m args below meth c G A ad0 Qm C F ad H locs lsA hag hst hl
  obtain ⟨-, hR, hx, hb, hml, -, hown, -, -, -, hT, hE, -⟩ := C.2
  refine lv_ishr hx hb hd ?_
  have e9 : zc G.2.2.1 ad (zI (zshr a b)) = .int _ := congrArg Value.int (Int32.ofInt_toInt _)
  rw [← e9]
  exact kk
theorem wl_ret {v : Option zV} (hpost : Post (.inl v) w) (hr : zRet Y pc v) (hc : nc ≤ mc) (hs : ns ≤ ms) {st : List zV} (hst : v.toList = st) : WL N xs Y d mc ms n0 Post pc ls st w nc ns := by
  subst hst
  intro p l e R s m args below meth c G A ad0 Qm C9 F ad H locs lsA hag hst hl
  exact F.1 v w ad H locs lsA pc nc ns hpost hr hc hs hag.1 hag.2 hst
theorem wl_iret {n : Int} (hd : decode Y.2.1 pc = .ok (.ireturn, 1)) (hr : Y.2.2.2.1 = some .int) (hc : nc ≤ mc) (hs : ns ≤ ms) (hpost : Post (.inl (some (zI n))) w) : WL N xs Y d mc ms n0 Post pc ls [zI n] w nc ns := wl_ret (v := some (zI n)) hpost ⟨hd, Or.inl hr⟩ hc hs rfl
theorem wl_zret {n : Int} (hd : decode Y.2.1 pc = .ok (.ireturn, 1)) (hr : Y.2.2.2.1 = some .boolean) (hc : nc ≤ mc) (hs : ns ≤ ms) (hz : n = 0 ∨ n = 1) (hpost : Post (.inl (some (zI n))) w) : WL N xs Y d mc ms n0 Post pc ls [zI n] w nc ns := wl_ret (v := some (zI n)) hpost ⟨hd, Or.inr (Or.inl ⟨hr, hz⟩)⟩ hc hs rfl
theorem wl_dup {v : zV} (hd : decode Y.2.1 pc = .ok (.dup, 1)) (hp : pc + 1 = pc') (hv : zcat v = 1) (k : WL N xs Y d mc ms n0 Post pc' ls (v :: v :: st) w nc ns) : WL N xs Y d mc ms n0 Post pc ls (v :: st) w nc ns := by
  subst hp
  intro p l e R s m args below meth c G A ad0 Qm C F ad H locs lsA hag hst hl
  have kk := k p l e R s m args below meth c G A ad0 Qm C F ad H locs lsA hag hst hl
  obtain ⟨-, -, hx, hb, -⟩ := C.2
  exact lv_dup hx hb hd (by rw [zcat_c]; exact hv) kk
theorem wl_callSH {idx n : Nat} {h1 : Nat × Nat × Nat × Nat} {ht : List (Nat × Nat × Nat × Nat)} (M : zMet Y1 d1 mc1 ms1 as w1 Post1) (hO : zOkH Y1 n) (hhY : Y1.2.2.2.2 = h1 :: ht) (hlink : Cond.methodLink Y.1.cls idx Y1.1 ∈ lw_tbl) (hd : decode Y.2.1 pc = .ok (.invokestatic idx, 3)) (hp : pc + 3 = pc') (ρ : List Nat) (hsub : ρ.map (fun i => w[i]?) = w1.map fun e => some (zre ρ e)) (hn : ρ.Nodup) (hstk : (as.map (zrv ρ)).reverse ++ st = stk) (hna : as.length = n) (hd1 : d1 + 1 ≤ d) (hcat : (st.map zcat).sum ≤ 8) (hmc : nc + mc1 ≤ mc) (hms : ns + ms1 ≤ ms) (hlen : ∀ o w', Post1 o w' → w'.length = w1.length)
    (kx : ∀ (E : String) (w1' : List zE), ¬ Post1 (.inr E) w1')
    (k : ∀ (v : Option zV) (w1' : List zE), Post1 (.inl v) w1' → WL N xs Y d mc ms n0 Post pc' ls ((v.map (zrv ρ)).toList ++ st) (zins (zre ρ) ρ w1' w) (nc + mc1) (ns + ms1)) : WL N xs Y d mc ms n0 Post pc ls stk w nc ns := by
  subst hp
  subst hstk
  intro p l e R s m args below meth c G A ad0 Qm C9 F ad H locs lsA hag hst hl
  obtain ⟨hfl, hR, hx, hb, hml, hr9, hown, hlk, hnm, htb, hT, hE, hA⟩ := id C9.2
  refine zl_go C9 F hag hst hl hsub hn hlen (a := (as.map (zc G.2.2.1 (fun k => ad (ρ.getD k 0)))).toArray) ?_ (fun E w1' H1 locs1 q ce hp1 hst1 hce hcv hcl => absurd hp1 (kx E w1')) k
  have hw : zwd Y1 = .codeWith Y1.1 Y1.2.1 Y1.2.2.1 Y1.2.2.2.1 Y1.2.2.2.2 := by unfold zwd; rw [hhY]
  obtain ⟨g1, g2, g3, g4, g5, g6⟩ := hO
  have hcw : vx_CSW R s args Y.1.cls idx Y1.1 Y1.2.1 Y1.2.2.1 Y1.2.2.2.1 Y1.2.2.2.2 [zwd Y1] (zRm d1 mc1 ms1) mc1 ms1 n := by
    refine ⟨⟨rfl, rfl, by show d1 + 1 ≤ R.frames; omega, by show 8 + (Y1.2.2.1 + 11) + 34 * d1 ≤ R.locals; omega, fun w hw9 a' U hW => ?_, by rw [hw]; exact List.mem_cons_self⟩, ?_, hT.at g2 (zgood_c _ rfl) _, g3, fun sig h => ?_, hT.at hlink (zgood_c _ rfl) _, hT.at g6 (zgood_c _ rfl) _⟩
    · rw [List.mem_singleton] at hw9
      subst hw9
      exact (zTab_warm hW hT).at g1 (zgood_c _ (zwd_good Y1)) _
    · rw [← hw]
      exact hT.at g1 (zgood_c _ (zwd_good Y1)) _
    · rw [h] at g4
      exact (Option.some.inj g4).symm
  refine vx_runSX (As := as.map (zc G.2.2.1 (fun k => ad (ρ.getD k 0)))) (cc := Y.2.1) (nL := Y.2.2.1) (Ts := []) ⟨hx, hb, hml, hown, fun _ h => nomatch h⟩ (M l G (fun k => ad (ρ.getD k 0)) H.size hfl) hcw (z_pre hsub hn hst hE hT hA) rfl (by rw [List.length_map]; exact hna) hl.1 ?_ (lv_room (z_cat hcat)) hd ⟨by omega, by omega⟩
  · show List.map _ _ = _
    rw [List.map_append, List.map_reverse, z_map]
/-- the script's length -/
theorem wl_slen (hd : decode Y.2.1 pc = .ok (.arraylength, 1)) (hp : pc + 1 = pc') (k9 : WL N xs Y d mc ms n0 Post pc' ls (zI N :: st) w nc ns) : WL N xs Y d mc ms n0 Post pc ls (zK 50 :: st) w nc ns := by
  subst hp
  intro p l e R s m args below meth c G A ad0 Qm C9 F ad H locs lsA hag hst hl
  obtain ⟨hfl, hR, hx, hb, hml, hr, hown, hlk, hnm, htb, hT, hE, hA⟩ := id C9.2
  obtain ⟨hP, hD, hS⟩ := id hst
  have kk := k9 p l e R s m args below meth c G A ad0 Qm C9 F ad H locs lsA hag hst hl
  refine va_tlen hx hb hE.2.2.2.1.2 hS ?_ hd kk
  rw [C9.1.1]
  exact Int32.ofInt_eq_ofNat.symm
theorem zi_vpz {a : Int} {n : Nat} (hz : zin a) (h0 : 0 ≤ a) (h1 : a < n) : vp_in (Int32.ofInt a) n := by
  rw [vp_in_iff, zin_t hz]
  exact ⟨h0, h1⟩
/-- an int of the script -/
theorem wl_sload {i : Int} (hd : decode Y.2.1 pc = .ok (.iaload, 1)) (hp : pc + 1 = pc') (hz : zin i) (h0 : 0 ≤ i) (h1 : i < N) (k9 : WL N xs Y d mc ms n0 Post pc' ls (zI (xs i.toNat).toInt :: st) w nc ns) : WL N xs Y d mc ms n0 Post pc ls (zI i :: zK 50 :: st) w nc ns := by
  subst hp
  intro p l e R s m args below meth c G A ad0 Qm C9 F ad H locs lsA hag hst hl
  obtain ⟨hfl, hR, hx, hb, hml, hr, hown, hlk, hnm, htb, hT, hE, hA⟩ := id C9.2
  obtain ⟨hP, hD, hS⟩ := id hst
  have kk := k9 p l e R s m args below meth c G A ad0 Qm C9 F ad H locs lsA hag hst hl
  have hTb := hE.2.2.2.1.2
  rw [C9.1.1] at hTb
  refine va_ti hx hb hTb hS (zi_vpz hz h0 h1) (v := .int (Int32.ofInt (xs i.toNat).toInt)) ?_ hd kk
  rw [zi_cl hz, C9.1.2, Int32.ofInt_toInt]
end ZWL
/-- a contract out of a walk with the script fixed -/
theorem wa_S {Y : zY} {d mc ms n0 : Nat} {Post : zP → List zE → Prop} {pc : Nat} {ls : List (Nat × zV)} {st : List zV} {w : List zE} {nc ns : Nat} (k : ∀ (N : Nat) (xs : Nat → Int32), WL N xs Y d mc ms n0 Post pc ls st w nc ns) : Wa Y d mc ms n0 Post pc ls st w nc ns := by
  intro p l e R s m args below meth c G A ad0 Qm C F ad H locs lsA hag hst hl
  obtain ⟨a1, a2, a3, a4, a5, a6, a7, a8, a9, b1, b2, b3, b4⟩ := id C
  exact k G.2.2.2.1 G.2.2.2.2 p l e R s m args below meth c G A ad0 Qm ⟨⟨rfl, rfl⟩, a1, a2, a3, a4, a5, a6, a7, a8, trivial, trivial, b2, b3, b4⟩ F ad H locs lsA hag hst hl
section ZSL
variable {N : Nat} {xs : Nat → Int32} {Y Y1 : zY} {d d1 mc ms mc1 ms1 n0 : Nat} {Post Post1 : zP → List zE → Prop} {pc pc' : Nat} {ls : List (Nat × zV)} {st stk as : List zV} {w w1 : List zE} {nc ns : Nat} {ρ : List Nat}
/-- a call of the object's method, answered as told -/
theorem wlx_x {c0 c1 : zCS} {r : List zE} {res : zP × zCS} {v : zV} {vc : vw_C} {idx n : Nat} (M : zMet Y1 d1 mc1 ms1 (zR 0 :: as) (wCS c0) (zX res.1 (wCS res.2))) (hr : res = (.inl (some v), c1)) (hv : zrv (List.range 53) v = v) (hO : zOkV Y1 n) (hlink : Cond.methodLink Y.1.cls idx Y1.1 ∈ lw_tbl) (hd : decode Y.2.1 pc = .ok (.invokevirtual idx, 3)) (hp : pc + 3 = pc') (hstk : (as.map (zrv (List.range 53))).reverse ++ zR 0 :: st = stk) (hna : as.length = n) (hvc : vwCl[5]? = some vc) (hcls : vc.1 = Y1.1.cls) (hd1 : d1 + 1 ≤ d) (hcat : (st.map zcat).sum ≤ 8) (hh : Y.2.2.2.2 = []) (hmc : nc + mc1 ≤ mc) (hms : ns + ms1 ≤ ms)
    (k : WL N xs Y d mc ms n0 Post pc' ls (v :: st) (wCS c1 ++ r) (nc + mc1) (ns + ms1)) : WL N xs Y d mc ms n0 Post pc ls stk (wCS c0 ++ r) nc ns := by
  subst hr
  refine wl_callV M hO hlink hd hp (List.range 53) (hsub_pre (w1 := wCS c0) (wCS_ok c0)) List.nodup_range hstk hna rfl hvc hcls hd1 hcat hh hmc hms (fun o w' h9 => by rw [h9.2]; rfl) (fun E w1' h9 => (nomatch h9.1)) (fun v1 w1' h9 => ?_)
  · obtain ⟨h1, rfl⟩ := h9
    have h3 : v1 = some v := Sum.inl.inj h1
    subst h3
    have hz : zins (zre (List.range 53)) (List.range 53) (wCS c1) (wCS c0 ++ r) = wCS c1 ++ r := zins_pre (w1 := wCS c0) rfl (wCS_ok _)
    rw [hz]
    have e : ((some v).map (zrv (List.range 53))).toList ++ st = v :: st := by rw [Option.map_some, hv]; rfl
    rw [e]
    exact k
theorem wly_x {c0 c1 : zCS} {res : zP × zCS} {v : zV} {vc : vw_C} {idx n : Nat} (M : zMet Y1 d1 mc1 ms1 (zR 0 :: as) (wCS c0) (zX res.1 (wCS res.2))) (hr : res = (.inl (some v), c1)) (hv : zrv (List.range 53) v = v) (hO : zOkV Y1 n) (hlink : Cond.methodLink Y.1.cls idx Y1.1 ∈ lw_tbl) (hd : decode Y.2.1 pc = .ok (.invokevirtual idx, 3)) (hp : pc + 3 = pc') (hstk : (as.map (zrv (List.range 53))).reverse ++ zR 0 :: st = stk) (hna : as.length = n) (hvc : vwCl[5]? = some vc) (hcls : vc.1 = Y1.1.cls) (hd1 : d1 + 1 ≤ d) (hcat : (st.map zcat).sum ≤ 8) (hh : Y.2.2.2.2 = []) (hmc : nc + mc1 ≤ mc) (hms : ns + ms1 ≤ ms)
    (k : WL N xs Y d mc ms n0 Post pc' ls (v :: st) (wCS c1) (nc + mc1) (ns + ms1)) : WL N xs Y d mc ms n0 Post pc ls stk (wCS c0) nc ns := by
  rw [← List.append_nil (wCS c0)]
  refine wlx_x M hr hv hO hlink hd hp hstk hna hvc hcls hd1 hcat hh hmc hms ?_
  rw [List.append_nil]
  exact k
/-- a call of a method of the law that takes the object -/
theorem wlx_s {c0 : zCS} {r : List zE} {P : zV → zCS → Prop} {idx n : Nat} (M : zMet Y1 d1 mc1 ms1 (zR 0 :: as) (wCS c0) (zLP P)) (hv : ∀ v c1, P v c1 → zrv (List.range 53) v = v) (hO : zOkS Y1 n) (hlink : Cond.methodLink Y.1.cls idx Y1.1 ∈ lw_tbl) (hd : decode Y.2.1 pc = .ok (.invokestatic idx, 3)) (hp : pc + 3 = pc') (hstk : ((zR 0 :: as).map (zrv (List.range 53))).reverse ++ st = stk) (hna : (zR 0 :: as).length = n) (hd1 : d1 + 1 ≤ d) (hcat : (st.map zcat).sum ≤ 8) (hh : Y.2.2.2.2 = []) (hmc : nc + mc1 ≤ mc) (hms : ns + ms1 ≤ ms)
    (k : ∀ v c1, P v c1 → WL N xs Y d mc ms n0 Post pc' ls (v :: st) (wCS c1 ++ r) (nc + mc1) (ns + ms1)) : WL N xs Y d mc ms n0 Post pc ls stk (wCS c0 ++ r) nc ns := by
  refine wl_callS M hO hlink hd hp (List.range 53) (hsub_pre (w1 := wCS c0) (wCS_ok c0)) List.nodup_range hstk hna hd1 hcat hh hmc hms (fun o w' h9 => zLP_len o w' h9) (fun E w1' h9 => zLP_x E w1' h9) (fun v1 w1' h9 => ?_)
  obtain ⟨v, c1, h1, h2, rfl⟩ := h9
  have h3 : v1 = some v := Sum.inl.inj h2
  subst h3
  have hz : zins (zre (List.range 53)) (List.range 53) (wCS c1) (wCS c0 ++ r) = wCS c1 ++ r := zins_pre (w1 := wCS c0) rfl (wCS_ok _)
  rw [hz]
  have e : ((some v).map (zrv (List.range 53))).toList ++ st = v :: st := by rw [Option.map_some, hv v c1 h1]; rfl
  rw [e]
  exact k v c1 h1
theorem wly_s {c0 : zCS} {P : zV → zCS → Prop} {idx n : Nat} (M : zMet Y1 d1 mc1 ms1 (zR 0 :: as) (wCS c0) (zLP P)) (hv : ∀ v c1, P v c1 → zrv (List.range 53) v = v) (hO : zOkS Y1 n) (hlink : Cond.methodLink Y.1.cls idx Y1.1 ∈ lw_tbl) (hd : decode Y.2.1 pc = .ok (.invokestatic idx, 3)) (hp : pc + 3 = pc') (hstk : ((zR 0 :: as).map (zrv (List.range 53))).reverse ++ st = stk) (hna : (zR 0 :: as).length = n) (hd1 : d1 + 1 ≤ d) (hcat : (st.map zcat).sum ≤ 8) (hh : Y.2.2.2.2 = []) (hmc : nc + mc1 ≤ mc) (hms : ns + ms1 ≤ ms)
    (k : ∀ v c1, P v c1 → WL N xs Y d mc ms n0 Post pc' ls (v :: st) (wCS c1) (nc + mc1) (ns + ms1)) : WL N xs Y d mc ms n0 Post pc ls stk (wCS c0) nc ns := by
  rw [← List.append_nil (wCS c0)]
  refine wlx_s M hv hO hlink hd hp hstk hna hd1 hcat hh hmc hms (fun v c1 h => ?_)
  rw [List.append_nil]
  exact k v c1 h
/-- the same, of one that catches -/
theorem wlx_h {c0 : zCS} {r : List zE} {P : zV → zCS → Prop} {idx n : Nat} {h1 : Nat × Nat × Nat × Nat} {ht : List (Nat × Nat × Nat × Nat)} (M : zMet Y1 d1 mc1 ms1 (zR 0 :: as) (wCS c0) (zLP P)) (hv : ∀ v c1, P v c1 → zrv (List.range 53) v = v) (hO : zOkH Y1 n) (hhY : Y1.2.2.2.2 = h1 :: ht) (hlink : Cond.methodLink Y.1.cls idx Y1.1 ∈ lw_tbl) (hd : decode Y.2.1 pc = .ok (.invokestatic idx, 3)) (hp : pc + 3 = pc') (hstk : ((zR 0 :: as).map (zrv (List.range 53))).reverse ++ st = stk) (hna : (zR 0 :: as).length = n) (hd1 : d1 + 1 ≤ d) (hcat : (st.map zcat).sum ≤ 8) (hmc : nc + mc1 ≤ mc) (hms : ns + ms1 ≤ ms)
    (k : ∀ v c1, P v c1 → WL N xs Y d mc ms n0 Post pc' ls (v :: st) (wCS c1 ++ r) (nc + mc1) (ns + ms1)) : WL N xs Y d mc ms n0 Post pc ls stk (wCS c0 ++ r) nc ns := by
  refine wl_callSH M hO hhY hlink hd hp (List.range 53) (hsub_pre (w1 := wCS c0) (wCS_ok c0)) List.nodup_range hstk hna hd1 hcat hmc hms (fun o w' h9 => zLP_len o w' h9) (fun E w1' h9 => zLP_x E w1' h9) (fun v1 w1' h9 => ?_)
  obtain ⟨v, c1, h1, h2, rfl⟩ := h9
  have h3 : v1 = some v := Sum.inl.inj h2
  subst h3
  have hz : zins (zre (List.range 53)) (List.range 53) (wCS c1) (wCS c0 ++ r) = wCS c1 ++ r := zins_pre (w1 := wCS c0) rfl (wCS_ok _)
  rw [hz]
  have e : ((some v).map (zrv (List.range 53))).toList ++ st = v :: st := by rw [Option.map_some, hv v c1 h1]; rfl
  rw [e]
  exact k v c1 h1
theorem wly_h {c0 : zCS} {P : zV → zCS → Prop} {idx n : Nat} {h1 : Nat × Nat × Nat × Nat} {ht : List (Nat × Nat × Nat × Nat)} (M : zMet Y1 d1 mc1 ms1 (zR 0 :: as) (wCS c0) (zLP P)) (hv : ∀ v c1, P v c1 → zrv (List.range 53) v = v) (hO : zOkH Y1 n) (hhY : Y1.2.2.2.2 = h1 :: ht) (hlink : Cond.methodLink Y.1.cls idx Y1.1 ∈ lw_tbl) (hd : decode Y.2.1 pc = .ok (.invokestatic idx, 3)) (hp : pc + 3 = pc') (hstk : ((zR 0 :: as).map (zrv (List.range 53))).reverse ++ st = stk) (hna : (zR 0 :: as).length = n) (hd1 : d1 + 1 ≤ d) (hcat : (st.map zcat).sum ≤ 8) (hmc : nc + mc1 ≤ mc) (hms : ns + ms1 ≤ ms)
    (k : ∀ v c1, P v c1 → WL N xs Y d mc ms n0 Post pc' ls (v :: st) (wCS c1) (nc + mc1) (ns + ms1)) : WL N xs Y d mc ms n0 Post pc ls stk (wCS c0) nc ns := by
  rw [← List.append_nil (wCS c0)]
  refine wlx_h M hv hO hhY hlink hd hp hstk hna hd1 hcat hmc hms (fun v c1 h => ?_)
  rw [List.append_nil]
  exact k v c1 h
/-- a call of a method of the law that takes numbers alone -/
theorem wlx_n {v : zV} {idx n : Nat} (M : zMet Y1 d1 0 0 as [] (zD (some v) [])) (hv : zrv [] v = v) (hO : zOkS Y1 n) (hlink : Cond.methodLink Y.1.cls idx Y1.1 ∈ lw_tbl) (hd : decode Y.2.1 pc = .ok (.invokestatic idx, 3)) (hp : pc + 3 = pc') (hstk : (as.map (zrv [])).reverse ++ st = stk) (hna : as.length = n) (hd1 : d1 + 1 ≤ d) (hcat : (st.map zcat).sum ≤ 8) (hh : Y.2.2.2.2 = []) (hmc : nc ≤ mc) (hms : ns ≤ ms)
    (k : WL N xs Y d mc ms n0 Post pc' ls (v :: st) w nc ns) : WL N xs Y d mc ms n0 Post pc ls stk w nc ns := by
  refine wl_callS M hO hlink hd hp [] rfl List.nodup_nil hstk hna hd1 hcat hh hmc hms (fun o w' h9 => by rw [h9.2]) (fun E w1' h9 => (nomatch h9.1)) (fun v1 w1' h9 => ?_)
  obtain ⟨h1, rfl⟩ := h9
  have h3 : v1 = some v := Sum.inl.inj h1
  subst h3
  have hz : zins (zre []) [] [] w = w := zins_of List.nodup_nil rfl rfl (fun _ _ => rfl)
  rw [hz]
  have e : ((some v).map (zrv [])).toList ++ st = v :: st := by rw [Option.map_some, hv]; rfl
  rw [e]
  exact k
theorem wlx_e {idx n : Nat} (M : zMet Y1 d1 0 0 as [] (fun o w' => w' = [] ∧ ∃ a, zin a ∧ o = .inl (some (zI a)))) (hO : zOkS Y1 n) (hlink : Cond.methodLink Y.1.cls idx Y1.1 ∈ lw_tbl) (hd : decode Y.2.1 pc = .ok (.invokestatic idx, 3)) (hp : pc + 3 = pc') (hstk : (as.map (zrv [])).reverse ++ st = stk) (hna : as.length = n) (hd1 : d1 + 1 ≤ d) (hcat : (st.map zcat).sum ≤ 8) (hh : Y.2.2.2.2 = []) (hmc : nc ≤ mc) (hms : ns ≤ ms)
    (k : ∀ a, zin a → WL N xs Y d mc ms n0 Post pc' ls (zI a :: st) w nc ns) : WL N xs Y d mc ms n0 Post pc ls stk w nc ns := by
  refine wl_callS M hO hlink hd hp [] rfl List.nodup_nil hstk hna hd1 hcat hh hmc hms (fun o w' h9 => by rw [h9.1]) (fun E w1' h9 => ?_) (fun v1 w1' h9 => ?_)
  · obtain ⟨-, a, -, h⟩ := h9
    exact nomatch h
  · obtain ⟨rfl, a, h1, h2⟩ := h9
    have h3 : v1 = some (zI a) := Sum.inl.inj h2
    subst h3
    have hz : zins (zre []) [] [] w = w := zins_of List.nodup_nil rfl rfl (fun _ _ => rfl)
    rw [hz]
    exact k a h1
end ZSL
section ZWN
variable {N9 : Nat} {xs : Nat → Int32} {Y Y1 : zY} {d d1 mc ms mc1 ms1 n0 : Nat} {Post Post1 : zP → List zE → Prop} {pc pc' : Nat} {ls : List (Nat × zV)} {st stk as : List zV} {w w1 : List zE} {nc ns : Nat} {ρ : List Nat}
variable {w2 w9 w' : List zE} {nc' ns' : Nat}
theorem WL.wN {p : Program} {l : Launch} {e : Env} {R : Room} {s : State} {m : MethodId} {args : Array Value} {below : List Frame} {meth : Method} {c : Code} {G : zG} {A : Nat → Prop} {ad0 : Nat → Nat} {Qm : State → Prop} (e9 : zE) (k : WL N9 xs Y d mc ms n0 Post pc ls (zR w.length :: st) (w ++ [e9]) nc ns)
    (C : zCxS N9 xs Y d mc ms p l R s m meth c G A) (F : zFin Y mc ms n0 Post p l e R s m args below meth c G A ad0 Qm) {ad : Nat → Nat} {H : Heap} {locs : List Loc} {lsA : Array Slot} (hag : n0 ≤ w.length ∧ zAg n0 w.length ad ad0) (hw : zokw w.length w) (hls : ls.all (fun q => zokv w.length q.2) = true) (hst : st.all (zokv w.length) = true) {q : Nat} {x : va_E} (hx : ze G (zpu ad w.length q) e9 = x) (h : va_P G.1 vwCl (zw G ad w ++ [(q, x)]) H ∧ va_D A (zw G ad w ++ [(q, x)]) ∧ va_S A s.heap H locs) (hl : lv_has lsA Y.2.2.1 (zls G.2.2.1 ad ls)) :
    W p l e R s m args below meth c H locs nc ns Qm (F0 m pc lsA (.ref q :: st.map (zc G.2.2.1 ad))) := by
  have e1 := zw_push (G := G) (ad := ad) (ad1 := zpu ad w.length q) e9 hw (zpu_lt _ _ _)
  rw [zpu_same, hx] at e1
  rw [← e1] at h
  have kk := k p l e R s m args below meth c G A ad0 Qm C F (zpu ad w.length q) H locs lsA (by rw [List.length_append]; exact ⟨by show n0 ≤ w.length + 1; omega, zpu_ag hag⟩) h (by rw [zls_ag (zpu_lt _ _ _) hls]; exact hl)
  rw [List.map_cons, zcs_ag (zpu_lt _ _ _) hst] at kk
  have e2 : zc G.2.2.1 (zpu ad w.length q) (zR w.length) = .ref q := congrArg Value.ref (zpu_same _ _ _)
  rw [e2] at kk
  exact kk
theorem wl_new {idx ci N : Nat} {C : String} {T : u_T} {ty : Nat → FieldType} {fs : List zV} (hC : zCl ci C T N ty) (hlink : Cond.classLink Y.1.cls idx C ∈ lw_tbl) (hd : decode Y.2.1 pc = .ok (.new idx, 3)) (hp : pc + 3 = pc') (hfs : ∀ ac ad, ∀ j, j < N → defaultValue (ty j) = vp_V (fs.map (zc ac ad)) j) (hfr : fs.all (zokv 0) = true) (hw : zokw w.length w) (hls : ls.all (fun q => zokv w.length q.2) = true) (hst : st.all (zokv w.length) = true) (hnc : nc + 1 = nc') (hns : ns + N = ns') (hmc : nc' ≤ mc) (hms : ns' ≤ ms) (hw' : w ++ [zO ci fs] = w')
    (k : WL N9 xs Y d mc ms n0 Post pc' ls (zR w.length :: st) w' nc' ns') : WL N9 xs Y d mc ms n0 Post pc ls st w nc ns := by
  subst hw'
  subst hnc
  subst hns
  subst hp
  intro p l e R s m args below meth c G A ad0 Qm C9 F ad H locs lsA hag hst9 hl
  obtain ⟨hfl, hR, hx, hb, hml, hr, hown, hlk, hnm, htb, hT, hE, hA⟩ := id C9.2
  obtain ⟨hP, hD, hS⟩ := id hst9
  refine va_new (Ts := u_ws C T N) hx hb (fun w9 h9 => hT.at (hC.2.1 w9 h9).1 (hC.2.1 w9 h9).2 _) (fun _ h9 => h9) ty hC.2.2.1 hown (hT.at hlink (zgood_c _ rfl) _) (hT.at hC.2.2.2.2.2.1 (zgood_c _ rfl) _) (hT.at hC.2.2.2.2.2.2 (zgood_c _ rfl) _) hE.1.1 hP hD hS hA hC.1 (fs := fs.map (zc G.2.2.1 ad)) (hfs _ _) (by omega) (by omega) hd (fun q H1 hP1 hD1 hS1 => ?_)
  refine WL.wN (zO ci fs) k C9 F hag hw hls hst ?_ ⟨hP1, hD1, hS1⟩ hl
  show Sum.inr (ci, fs.map (zc G.2.2.1 (zpu ad w.length q))) = _
  rw [zcs_ag (n := 0) (fun k h => absurd h (Nat.not_lt_zero k)) hfr]
theorem zl_goD {p : Program} {l : Launch} {e : Env} {R : Room} {s : State} {m : MethodId} {args : Array Value} {below : List Frame} {meth : Method} {c : Code} {G : zG} {A : Nat → Prop} {ad0 ad : Nat → Nat} {Qm : State → Prop} {H : Heap} {locs : List Loc} {lsA : Array Slot} {stv : List Value} {a : Array Value}
    (C9 : zCxS N9 xs Y d mc ms p l R s m meth c G A) (F : zFin Y mc ms n0 Post p l e R s m args below meth c G A ad0 Qm) (hag : n0 ≤ w.length ∧ zAg n0 w.length ad ad0) (hst : zSt G A ad s H locs w) (hl : lv_has lsA Y.2.2.1 (zls G.2.2.1 ad ls))
    (hsub : ρ.map (fun i => w[i]?) = w1.map fun e => some (zre ρ e)) (hn : ρ.Nodup) (hw : zokw w.length w) (hls : ls.all (fun q => zokv w.length q.2) = true) (hsk : st.all (zokv w.length) = true) (hw0 : 0 < w.length)
    (hr : vx_Run p l e R s m args below meth c H locs nc ns mc1 ms1 (F0 m pc lsA stv) (st.map (zc G.2.2.1 ad)) (zQc G (fun k => ad (ρ.getD k 0)) H.size w1 (zD none w9) a) (zXC G (va_A (zw G (fun k => ad (ρ.getD k 0)) w1) H.size) (fun k => ad (ρ.getD k 0)) w1.length (zD none w9)) (va_A (zw G (fun k => ad (ρ.getD k 0)) w1) H.size))
    (hw2 : zins (zre (zrx ρ w.length (w9.length - w1.length))) (zrx ρ w.length (w9.length - w1.length)) w9 (w ++ w9.drop w1.length) = w2)
    (k : WL N9 xs Y d mc ms n0 Post (pc + 3) ls st w2 (nc + mc1) (ns + ms1)) :
    W p l e R s m args below meth c H locs nc ns Qm (F0 m pc lsA stv) := by
  subst hw2
  obtain ⟨hfl, hR, hx, hb, hml, hr9, hown, hlk, hnm, htb, hT, hE, hA⟩ := id C9.2
  obtain ⟨hP, hD, hS⟩ := id hst
  have hF : ∀ q, va_A (zw G (fun k => ad (ρ.getD k 0)) w1) H.size q → A q := z_preA hsub hD hS hA
  intro T hT9 X
  rcases hr T hT9 X with ⟨v, st₀, t, T', L, h0, X', hL, e1, e2, ⟨⟨v1, w1', ad1, hv, hp, hle, hag1, hP1, hD1⟩, hF1⟩, stp⟩ | ⟨q, st₀, t, T', L, E, ce, h0, X', hL, e1, e2, ⟨⟨w1', ad1, hp, hle, hag1, hP1, hD1⟩, hF1⟩, hce, hcv, hcl, stp⟩
  · obtain ⟨hp1, rfl⟩ := hp
    cases hp1
    cases hv
    obtain ⟨k1, k2, k3⟩ := vx_keep h0 e1 hS (fun q _ h => hF q h) hF hL hF1
    rw [← e1] at hP1
    generalize hρ' : zrx ρ w.length (w1'.length - w1.length) = ρ' at k
    have hρl : ρ.length = w1.length := by have := congrArg List.length hsub; simpa using this
    have hρ0 : ∀ j i : Nat, ρ[j]? = some i → i < w.length := by
      intro j i hj
      have hjl : j < w1.length := by rw [← hρl]; exact (List.getElem?_eq_some_iff.mp hj).1
      have h2 : (ρ.map (fun i => w[i]?))[j]? = (w1.map fun e => some (zre ρ e))[j]? := by rw [hsub]
      rw [List.getElem?_map, hj, List.getElem?_map, List.getElem?_eq_getElem hjl] at h2
      exact (List.getElem?_eq_some_iff.mp (Option.some.inj h2)).1
    have hρ1 : ∀ j : Nat, j < w1.length → ρ'[j]? = ρ[j]? := by
      intro j hj
      rw [← hρ']
      exact List.getElem?_append_left (by rw [hρl]; exact hj)
    have hρ2 : ∀ j : Nat, w1.length ≤ j → j < w1'.length → ρ'[j]? = some (w.length + (j - w1.length)) := by
      intro j hj hj2
      rw [← hρ', zrx, List.getElem?_append_right (by rw [hρl]; exact hj), hρl, List.getElem?_range' (by omega)]
      simp
    have hρ'l : ρ'.length = w1'.length := by
      rw [← hρ', zrx, List.length_append, List.length_range', hρl]
      omega
    have hrng : ∀ k : Nat, w.length ≤ k → k < w.length + (w1'.length - w1.length) → k ∈ ρ' := by
      intro k h1 h2
      rw [← hρ', zrx]
      exact List.mem_append_right _ (List.mem_range'_1.mpr ⟨h1, h2⟩)
    have hnd : ρ'.Nodup := by
      rw [← hρ', zrx, List.nodup_append]
      refine ⟨hn, List.nodup_range', ?_⟩
      intro x h1 y h2 hxy
      obtain ⟨j, hj⟩ := List.getElem?_of_mem h1
      have := hρ0 j x hj
      have := (List.mem_range'_1.mp h2).1
      omega
    generalize had2 : (fun k => if w.length ≤ k ∧ k < w.length + (w1'.length - w1.length) then ad1 (w1.length + (k - w.length)) else ad k) = ad2
    have hlo : ∀ k : Nat, k < w.length → ad2 k = ad k := by
      intro k hk
      rw [← had2]
      exact if_neg (by omega)
    have hfun : (fun k => ad2 (ρ'.getD k 0)) = ad1 := by
      funext j
      by_cases h1 : j < w1.length
      · have hj : ρ[j]? = some ρ[j] := List.getElem?_eq_getElem (by rw [hρl]; exact h1)
        have h3 : ρ'.getD j 0 = ρ.getD j 0 := by rw [List.getD_eq_getElem?_getD, List.getD_eq_getElem?_getD, hρ1 j h1]
        have h4 : ρ.getD j 0 < w.length := by
          rw [List.getD_eq_getElem?_getD, hj]
          exact hρ0 j _ hj
        rw [h3, hlo _ h4]
        exact (hag1 j (Or.inl h1)).symm
      · by_cases h2 : j < w1'.length
        · have h3 : ρ'.getD j 0 = w.length + (j - w1.length) := by rw [List.getD_eq_getElem?_getD, hρ2 j (by omega) h2]; rfl
          rw [h3, ← had2]
          show (if _ then _ else _) = _
          rw [if_pos (by omega)]
          congr 1
          omega
        · have h3 : ρ'.getD j 0 = 0 := by rw [List.getD_eq_getElem?_getD, List.getElem?_eq_none (by omega)]; rfl
          have h4 : ρ.getD j 0 = 0 := by rw [List.getD_eq_getElem?_getD, List.getElem?_eq_none (by omega)]; rfl
          rw [h3, hlo 0 hw0]
          have := hag1 j (Or.inr (by omega))
          rw [this]
          show ad 0 = ad (ρ.getD j 0)
          rw [h4]
    have hpl : (w ++ w1'.drop w1.length).length = w.length + (w1'.length - w1.length) := by rw [List.length_append, List.length_drop]
    have hkey : ∀ (k : Nat) (q : Nat × va_E), (zw G ad2 (zins (zre ρ') ρ' w1' (w ++ w1'.drop w1.length)))[k]? = some q → (∃ j : Nat, (zw G ad1 w1')[j]? = some q ∧ ρ'[j]? = some k) ∨ (k ∉ ρ' ∧ (zw G ad w)[k]? = some q) := by
      intro k q hq
      rw [zw_at] at hq
      by_cases hk : k ∈ ρ'
      · obtain ⟨j, hj⟩ := List.getElem?_of_mem hk
        have hjl : j < w1'.length := by rw [← hρ'l]; exact (List.getElem?_eq_some_iff.mp hj).1
        have hkl : k < (w ++ w1'.drop w1.length).length := by
          rw [hpl]
          by_cases h1 : j < w1.length
          · have := hρ0 j k (by rw [← hρ1 j h1]; exact hj)
            omega
          · have h3 := hρ2 j (by omega) hjl
            rw [hj] at h3
            have := Option.some.inj h3
            omega
        rw [zins_in (zre ρ') ρ' w1' _ j k _ hnd hj (List.getElem?_eq_getElem hjl) hkl] at hq
        have h5 : ρ'.getD j 0 = k := by rw [List.getD_eq_getElem?_getD, hj]; rfl
        refine Or.inl ⟨j, ?_, hj⟩
        rw [zw_get (List.getElem?_eq_getElem hjl), ← hq]
        have h6 : ad2 k = ad1 j := by
          rw [← hfun, ← h5]
        show some (ad1 j, ze G ad1 w1'[j]) = some (ad2 k, ze G ad2 (zre ρ' w1'[j]))
        rw [← ze_ren, hfun, h6]
      · rw [zins_out (zre ρ') ρ' w1' _ k hk] at hq
        have hkl : k < w.length := by
          cases h7 : (w ++ w1'.drop w1.length)[k]? with
          | none => rw [h7] at hq; cases hq
          | some x =>
            have h8 := (List.getElem?_eq_some_iff.mp h7).1
            rw [hpl] at h8
            by_cases h9 : k < w.length
            · exact h9
            · exact absurd (hrng k (by omega) h8) hk
        rw [List.getElem?_append_left hkl, List.getElem?_eq_getElem hkl] at hq
        refine Or.inr ⟨hk, ?_⟩
        rw [zw_get (List.getElem?_eq_getElem hkl), ← hq]
        show some (ad k, ze G ad w[k]) = some (ad2 k, ze G ad2 w[k])
        rw [ze_ag hlo (zokw_at hw (List.getElem?_eq_getElem hkl)), hlo k hkl]
    have hsep : ∀ (j1 : Nat) (p : Nat × va_E) (k2 : Nat) (q : Nat × va_E), (zw G ad1 w1')[j1]? = some p → k2 ∉ ρ' → (zw G ad w)[k2]? = some q → p.1 ≠ q.1 := by
      intro j1 p k2 q h1 h2 h3 h4
      have hA1 : ∀ (j : Nat) (x : Nat) (y : va_E), (zw G (fun k => ad (ρ.getD k 0)) w1)[j]? = some (x, y) → x ≠ q.1 := by
        intro j x y hj hxq
        obtain ⟨i, a1, a2, b1⟩ := z_part hsub j _ hj
        have := hD.1 i k2 _ _ b1 h3 hxq
        subst this
        have hjl : j < w1.length := by rw [← hρl]; exact (List.getElem?_eq_some_iff.mp a1).1
        exact h2 (List.mem_of_getElem? ((hρ1 j hjl).trans a1))
      rcases hD1.2 j1 p h1 with ⟨j, y, hj⟩ | h5
      · exact hA1 j _ _ hj h4
      · have := (hP k2 q h3).lt
        rw [h4] at h5
        omega
    have hP2 : va_P G.1 vwCl (zw G ad2 (zins (zre ρ') ρ' w1' (w ++ w1'.drop w1.length))) T'.heap := by
      intro k q hq
      rcases hkey k q hq with ⟨j, h1, h2⟩ | ⟨h1, h2⟩
      · exact hP1 j q h1
      · have h3 := hP k q h2
        refine h3.kept (k2 q.1 h3.lt ?_)
        intro h
        rcases h with ⟨j, y, hj⟩ | h
        · obtain ⟨i, a1, a2, b1⟩ := z_part hsub j _ hj
          have := hD.1 i k _ _ b1 h2 rfl
          subst this
          have hjl : j < w1.length := by rw [← hρl]; exact (List.getElem?_eq_some_iff.mp a1).1
          exact h1 (List.mem_of_getElem? ((hρ1 j hjl).trans a1))
        · have := h3.lt
          omega
    have hD2 : va_D A (zw G ad2 (zins (zre ρ') ρ' w1' (w ++ w1'.drop w1.length))) := by
      refine ⟨fun i j p q hi hj hpq => ?_, fun k q hk => ?_⟩
      · rcases hkey i p hi with ⟨i1, a1, a2⟩ | ⟨a1, a2⟩
        · rcases hkey j q hj with ⟨j1, b1, b2⟩ | ⟨b1, b2⟩
          · have := hD1.1 i1 j1 _ _ a1 b1 hpq
            subst this
            exact Option.some.inj (a2.symm.trans b2)
          · exact absurd hpq (hsep i1 p j q a1 b1 b2)
        · rcases hkey j q hj with ⟨j1, b1, b2⟩ | ⟨b1, b2⟩
          · exact absurd hpq.symm (hsep j1 q i p b1 a1 a2)
          · exact hD.1 i j _ _ a2 b2 hpq
      · rcases hkey k q hk with ⟨j, a1, a2⟩ | ⟨a1, a2⟩
        · exact hF _ (hD1.2 j q a1)
        · exact hD.2 k q a2
    have hl2 : (zins (zre ρ') ρ' w1' (w ++ w1'.drop w1.length)).length = w.length + (w1'.length - w1.length) := by rw [zins_len, hpl]
    have hkk := k p l e R s m args below meth c G A ad0 Qm C9 F ad2 T'.heap (locs ++ L) lsA (by
      rw [hl2]
      refine ⟨by omega, fun k hk => ?_⟩
      rw [← had2]
      show (if _ then _ else _) = _
      rw [if_neg (by omega)]
      exact hag.2 k (by omega)) ⟨hP2, hD2, k3⟩ (by rw [zls_ag hlo hls]; exact hl)
    rw [zcs_ag hlo hsk] at hkk
    obtain ⟨t2, a1, b1⟩ := hkk T' rfl X'
    exact ⟨t2, stp t2 a1, b1⟩
  · exact nomatch hp.1
theorem wl_iV {q : Nat} {idx n : Nat} (M : zMet Y1 d1 mc1 ms1 (zR q :: as) w1 (zD none w9)) (hO : zOkI Y1 n) (hlink : Cond.methodLink Y.1.cls idx Y1.1 ∈ lw_tbl) (hd : decode Y.2.1 pc = .ok (.invokespecial idx, 3)) (hp : pc + 3 = pc') (ρ : List Nat) (hsub : ρ.map (fun i => w[i]?) = w1.map fun e => some (zre ρ e)) (hn : ρ.Nodup) (hstk : (as.map (zrv ρ)).reverse ++ zR (ρ.getD q 0) :: st = stk) (hna : as.length = n) (hd1 : d1 + 1 ≤ d) (hcat : (st.map zcat).sum ≤ 8) (hw : zokw w.length w) (hls : ls.all (fun q => zokv w.length q.2) = true) (hsk : st.all (zokv w.length) = true) (hw0 : 0 < w.length) (hnc : nc + mc1 = nc') (hns : ns + ms1 = ns') (hmc : nc' ≤ mc) (hms : ns' ≤ ms)
    (hw2 : zins (zre (zrx ρ w.length (w9.length - w1.length))) (zrx ρ w.length (w9.length - w1.length)) w9 (w ++ w9.drop w1.length) = w2)
    (k : WL N9 xs Y d mc ms n0 Post pc' ls st w2 nc' ns') : WL N9 xs Y d mc ms n0 Post pc ls stk w nc ns := by
  subst hp
  subst hstk
  subst hnc
  subst hns
  intro p l e R s m args below meth c G A ad0 Qm C9 F ad H locs lsA hag hst hl
  obtain ⟨hfl, hR, hx, hb, hml, hr9, hown, hlk, hnm, htb, hT, hE, hA⟩ := id C9.2
  refine zl_goD (a := ((zR q :: as).map (zc G.2.2.1 (fun k => ad (ρ.getD k 0)))).toArray) C9 F hag hst hl hsub hn hw hls hsk hw0 ?_ hw2 k
  have hcb := z_cb (Y := Y) (mc1 := mc1) (ms1 := ms1) (args := args) hO.1 hT hlink hd1 hR
  rw [hO.2.2.2] at hcb
  refine vx_runI (As := as.map (zc G.2.2.1 (fun k => ad (ρ.getD k 0)))) (b := ad (ρ.getD q 0)) (cc := Y.2.1) (nL := Y.2.2.1) (Ts := []) ⟨hx, hb, hml, hown, fun _ h => nomatch h⟩ (M l G (fun k => ad (ρ.getD k 0)) H.size hfl) ⟨hcb, hO.2.2.1, hT.at hO.2.1 (zgood_c _ rfl) _⟩ (z_pre (as := zR q :: as) hsub hn hst hE hT hA) rfl (by rw [List.length_map]; exact hna) hl.1 ?_ (lv_room (z_cat hcat)) hd ⟨by omega, by omega⟩
  show List.map _ _ = _
  rw [List.map_append, List.map_reverse, z_map]
  rfl
end ZWN
