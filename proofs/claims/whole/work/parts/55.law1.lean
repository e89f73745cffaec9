/-! the law's helpers: a call whose exceptions are caught -/
/-- what catches E, thrown at pc, and the code it answers -/
def zHan (Y : zY) (pc : Nat) (E : String) (cv : Int) : Prop :=
  ∃ (pre : List ExceptionTableEntry) (x : ExceptionTableEntry) (suf : List ExceptionTableEntry) (i : Nat), tableOf Y.2.2.2.2 = pre ++ x :: suf ∧ (∀ z ∈ pre, z.catchType ≠ 0 ∧ ∃ nm, Cond.classLink Y.1.cls z.catchType nm ∈ lw_tbl ∧ E = eIS ∧ (nm = eIA ∨ nm = eIO)) ∧ (covers x pc = true ∧ x.catchType ≠ 0) ∧ (Cond.classLink Y.1.cls x.catchType E ∈ lw_tbl ∧ Cond.castable E E ∈ lw_tbl) ∧ i < Y.2.2.1 ∧
    ((∃ q : Fin 4, (q : Nat) = i ∧ decode Y.2.1 x.handlerPc = .ok (.astore_n q, 1) ∧ decode Y.2.1 (x.handlerPc + 1) = .ok (.iconst cv, 1) ∧ decode Y.2.1 (x.handlerPc + 1 + 1) = .ok (.ireturn, 1)) ∨ (decode Y.2.1 x.handlerPc = .ok (.astore i, 2) ∧ decode Y.2.1 (x.handlerPc + 2) = .ok (.iconst cv, 1) ∧ decode Y.2.1 (x.handlerPc + 2 + 1) = .ok (.ireturn, 1))) ∧ Y.2.2.2.1 = some .int
section ZLX
variable {Y Y1 : zY} {d d1 mc ms mc1 ms1 n0 : Nat} {Post Post1 : zP → List zE → Prop} {pc pc' : Nat} {ls : List (Nat × zV)} {st stk as : List zV} {w w1 : List zE} {nc ns : Nat} {ρ : List Nat}
theorem wa_callX {q ci : Nat} {fs : List zV} {vc : vw_C} {idx n : Nat} (M : zMet Y1 d1 mc1 ms1 (zR q :: as) w1 Post1) (hO : zOkV Y1 n) (hlink : Cond.methodLink Y.1.cls idx Y1.1 ∈ lw_tbl) (hd : decode Y.2.1 pc = .ok (.invokevirtual idx, 3)) (hp : pc + 3 = pc') (ρ : List Nat) (hsub : ρ.map (fun i => w[i]?) = w1.map fun e => some (zre ρ e)) (hn : ρ.Nodup) (hstk : (as.map (zrv ρ)).reverse ++ zR (ρ.getD q 0) :: st = stk) (hna : as.length = n) (hq : w1[q]? = some (zO ci fs)) (hvc : vwCl[ci]? = some vc) (hcls : vc.1 = Y1.1.cls) (hd1 : d1 + 1 ≤ d) (hcat : (st.map zcat).sum ≤ 8) (hmc : nc + mc1 ≤ mc) (hms : ns + ms1 ≤ ms) (hlen : ∀ o w', Post1 o w' → w'.length = w1.length)
    (kx : ∀ (E : String) (w1' : List zE), Post1 (.inr E) w1' → ∃ cv, zHan Y pc E cv ∧ Post (.inl (some (zI cv))) (zins (zre ρ) ρ w1' w))
    (k : ∀ (v : Option zV) (w1' : List zE), Post1 (.inl v) w1' → Wa Y d mc ms n0 Post pc' ls ((v.map (zrv ρ)).toList ++ st) (zins (zre ρ) ρ w1' w) (nc + mc1) (ns + ms1)) : Wa Y d mc ms n0 Post pc ls stk w nc ns := by
  subst hp
  subst hstk
  intro p l e R s m args below meth c G A ad0 Qm C9 F ad H locs lsA hag hst hl
  obtain ⟨hfl, hR, hx, hb, hml, hr9, hown, hlk, hnm, htb, hT, hE, hA⟩ := id C9
  refine z_go C9 F hag hst hl hsub hn hlen (a := ((zR q :: as).map (zc G.2.2.1 (fun k => ad (ρ.getD k 0)))).toArray) ?_ (fun E w1' H1 locs1 q ce hp1 hst1 hce hcv hcl => ?_) k
  · refine vx_runV (As := as.map (zc G.2.2.1 (fun k => ad (ρ.getD k 0)))) (b := ad (ρ.getD q 0)) (C := Y1.1.cls) (cc := Y.2.1) (nL := Y.2.2.1) (Ts := []) ⟨hx, hb, hml, hown, fun _ h => nomatch h⟩ (M l G (fun k => ad (ρ.getD k 0)) H.size hfl) ⟨z_cb hO.1 hT hlink hd1 hR, hT.at hO.2.1 (zgood_c _ rfl) _, hT.at hO.2.2 (zgood_c _ rfl) _⟩ ⟨(z_pre hsub hn hst hE hT hA).1, ?_, (z_pre (as := zR q :: as) hsub hn hst hE hT hA).2⟩ rfl (by rw [List.length_map]; exact hna) hl.1 ?_ (lv_room (z_cat hcat)) hd ⟨by omega, by omega⟩
    · obtain ⟨cell, g1, g2, g3⟩ := va_recv hE.1.1 (z_partP (ad := ad) hsub hst.1) hvc (zw_get hq)
      exact ⟨cell, g1, g2, by rw [← hcls]; exact g3⟩
    · show List.map _ _ = _
      rw [List.map_append, List.map_reverse, z_map]
      rfl
  · obtain ⟨cv, ⟨pre, x, suf, i, hsp, hpre, ⟨hcov, h0⟩, ⟨hl1, hl2⟩, hi, hh, hret⟩, hpost⟩ := kx E w1' hp1
    refine vx_catch (own := Y.1.cls) (name := E) (E := E) hown pre x suf (by rw [htb]; exact hsp) (fun z hz => ?_) hcov h0 (hT.at hl1 (zgood_c _ rfl) _) (hT.at hl2 rfl _) hce hcv hcl ?_
    · obtain ⟨a1, nm, a2, rfl, a3⟩ := hpre z hz
      refine Or.inr ⟨a1, nm, hT.at a2 (zgood_c _ rfl) _, ?_⟩
      obtain ⟨n1, n2⟩ := hE.2.2.2.2.2.2.2.2.1
      rcases a3 with rfl | rfl
      · exact n1
      · exact n2
    · rcases hh with ⟨qi, hqi, g1, g2, g3⟩ | ⟨g1, g2, g3⟩
      · exact lv_astore_n hx hb g1 hqi hl hi rfl (fun lsA' hl' => lv_iconst hx hb g2 rfl (F.1 (some (zI cv)) _ ad H1 locs1 lsA' (x.handlerPc + 1 + 1) _ _ hpost ⟨g3, Or.inl hret⟩ hmc hms (by rw [zins_len]; exact hag.1) (by rw [zins_len]; exact hag.2) hst1))
      · exact lv_astore hx hb g1 hl hi rfl (fun lsA' hl' => lv_iconst hx hb g2 rfl (F.1 (some (zI cv)) _ ad H1 locs1 lsA' (x.handlerPc + 2 + 1) _ _ hpost ⟨g3, Or.inl hret⟩ hmc hms (by rw [zins_len]; exact hag.1) (by rw [zins_len]; exact hag.2) hst1))
theorem wa_i2lG {a : Int} (hd : decode Y.2.1 pc = .ok (.i2l, 1)) (hp : pc + 1 = pc') (k : Wa Y d mc ms n0 Post pc' ls (zJ (Int32.ofInt a).toInt :: st) w nc ns) : Wa Y d mc ms n0 Post pc ls (zI a :: st) w nc ns := by
  subst hp
  intro p l e R s m args below meth c G A ad0 Qm C F ad H locs lsA hag hst hl
  have kk := k p l e R s m args below meth c G A ad0 Qm C F ad H locs lsA hag hst hl
  obtain ⟨-, -, hx, hb, -⟩ := C
  exact lv_i2l hx hb hd rfl kk
end ZLX
/-! worlds in segments -/
theorem zre_idG {n : Nat} {ρ : List Nat} {e : zE} (h0 : ∀ k, k < n → ρ.getD k 0 = k) (h : zoke n e) : zre ρ e = e := by
  rcases e with a | ⟨m, f⟩ | ⟨c, fs⟩
  · rfl
  · have e1 : (fun j => (f j).map fun k => ρ.getD k 0) = f := by
      funext j
      cases hf : f j with
      | none => rfl
      | some k =>
        show some (ρ.getD k 0) = some k
        rw [h0 k (h j k hf)]
    show Sum.inr (Sum.inl (m, _)) = _
    rw [e1]
  · have e1 : fs.map (zrv ρ) = fs := by
      have e2 : fs.map (zrv ρ) = fs.map id := by
        apply List.map_congr_left
        intro v hv
        have h1 := List.all_eq_true.mp h v hv
        rcases v with x | x | _ | k | k
        · rfl
        · rfl
        · rfl
        · show zR (ρ.getD k 0) = zR k
          rw [h0 k (zokv_lt h1)]
        · rfl
      rw [e2, List.map_id]
    show Sum.inr (Sum.inr (c, _)) = _
    rw [e1]
/-- a part of a world, place by place -/
theorem hsub_g {ρ : List Nat} {w1 w : List zE} (hl : ρ.length = w1.length) (h : ∀ (i : Nat) (e : zE), w1[i]? = some e → ∃ j, ρ[i]? = some j ∧ w[j]? = some (zre ρ e)) : ρ.map (fun i => w[i]?) = w1.map fun e => some (zre ρ e) := by
  apply List.ext_getElem?
  intro i
  rw [List.getElem?_map, List.getElem?_map]
  by_cases hi : i < w1.length
  · obtain ⟨j, h1, h2⟩ := h i w1[i] (List.getElem?_eq_getElem hi)
    rw [h1, List.getElem?_eq_getElem hi]
    show some w[j]? = some (some _)
    rw [h2]
  · rw [List.getElem?_eq_none (by omega), List.getElem?_eq_none (by omega)]
    rfl
theorem zgetr {n k : Nat} (h : k < n) : (List.range n).getD k 0 = k := by
  rw [List.getD_eq_getElem?_getD, List.getElem?_range h]
  rfl
theorem hsub_pre {w1 r : List zE} (h : zokw w1.length w1) : (List.range w1.length).map (fun i => (w1 ++ r)[i]?) = w1.map fun e => some (zre (List.range w1.length) e) := by
  refine hsub_g (List.length_range) (fun i e he => ?_)
  have hi : i < w1.length := (List.getElem?_eq_some_iff.mp he).1
  exact ⟨i, List.getElem?_range hi, by rw [List.getElem?_append_left hi, he, zre_id (zokw_at h he)]⟩
theorem zins_pre {w1 w2 r : List zE} (hl : w2.length = w1.length) (h : zokw w1.length w2) : zins (zre (List.range w1.length)) (List.range w1.length) w2 (w1 ++ r) = w2 ++ r := by
  refine zins_of List.nodup_range ?_ (by rw [List.length_append, List.length_append, hl]) (fun k hk => ?_)
  · have := hsub_pre (w1 := w2) (r := r) (by rw [hl]; exact h)
    rw [hl] at this
    exact this
  · have hk' : w1.length ≤ k := by rw [List.mem_range] at hk; omega
    rw [List.getElem?_append_right (by omega), List.getElem?_append_right (by omega), hl]
theorem hsub_seg {a b w1 : List zE} {k : Nat} (ha : a.length = k) : (List.range' k w1.length).map (fun i => (a ++ (w1.map (zre (List.range' k w1.length)) ++ b))[i]?) = w1.map fun e => some (zre (List.range' k w1.length) e) := by
  refine hsub_g (List.length_range') (fun i e he => ?_)
  have hi : i < w1.length := (List.getElem?_eq_some_iff.mp he).1
  refine ⟨k + i, by rw [List.getElem?_eq_getElem (by rw [List.length_range']; exact hi), List.getElem_range']; simp, ?_⟩
  rw [List.getElem?_append_right (by omega), show k + i - a.length = i by omega, List.getElem?_append_left (by rw [List.length_map]; exact hi), List.getElem?_map, he]
  rfl
theorem zins_seg {a b w1 w2 : List zE} {k : Nat} (ha : a.length = k) (hl : w2.length = w1.length) : zins (zre (List.range' k w1.length)) (List.range' k w1.length) w2 (a ++ (w1.map (zre (List.range' k w1.length)) ++ b)) = a ++ (w2.map (zre (List.range' k w1.length)) ++ b) := by
  refine zins_of List.nodup_range' ?_ (by simp only [List.length_append, List.length_map, hl]) (fun j hj => ?_)
  · have := hsub_seg (b := b) (w1 := w2) ha
    rw [hl] at this
    exact this
  · rw [List.mem_range'] at hj
    by_cases h1 : j < k
    · rw [List.getElem?_append_left (by omega), List.getElem?_append_left (by omega)]
    · have h2 : k + w1.length ≤ j := by
        rcases Nat.lt_or_ge j (k + w1.length) with h | h
        · exact absurd ⟨j - k, by omega, by omega⟩ hj
        · exact h
      rw [List.getElem?_append_right (show a.length ≤ j by omega), List.getElem?_append_right (show a.length ≤ j by omega), List.getElem?_append_right (show (w2.map (zre (List.range' k w1.length))).length ≤ j - a.length by rw [List.length_map]; omega), List.getElem?_append_right (show (w1.map (zre (List.range' k w1.length))).length ≤ j - a.length by rw [List.length_map]; omega), List.length_map, List.length_map, hl]
/-- the class's cells and the answer's place, out of the law's world -/
def rH : List Nat := List.range 53 ++ [63]
theorem rH_get : ∀ k, k < 53 → rH.getD k 0 = k := by decide +kernel
theorem hsub_H {w1 mm b : List zE} {o : zE} (hl : w1.length = 53) (h : zokw 53 w1) (hm : mm.length = 10) (ho : zre rH o = o) : rH.map (fun i => (w1 ++ (mm ++ o :: b))[i]?) = (w1 ++ [o]).map fun e => some (zre rH e) := by
  refine hsub_g (by rw [List.length_append, hl]; rfl) (fun i e he => ?_)
  by_cases hi : i < 53
  · rw [List.getElem?_append_left (by omega)] at he
    refine ⟨i, ?_, ?_⟩
    · rw [rH, List.getElem?_append_left (by rw [List.length_range]; exact hi), List.getElem?_range hi]
    · rw [List.getElem?_append_left (by omega), he, zre_idG rH_get (zokw_at h he)]
  · rw [List.getElem?_append_right (by omega), hl] at he
    have h0 : i - 53 = 0 := by
      rcases Nat.eq_zero_or_pos (i - 53) with z | z
      · exact z
      · rw [List.getElem?_eq_none (by show 1 ≤ _; omega)] at he; cases he
    have h1 : i = 53 := by omega
    subst h1
    have h2 : o = e := Option.some.inj he
    subst h2
    exact ⟨63, rfl, by rw [List.getElem?_append_right (by omega), List.getElem?_append_right (by omega), hl, hm, ho]; rfl⟩
theorem zins_H {w1 w2 mm b : List zE} {o o2 : zE} (hl : w1.length = 53) (hl2 : w2.length = 53) (h : zokw 53 w2) (hm : mm.length = 10) (ho : zre rH o2 = o2) : zins (zre rH) rH (w2 ++ [o2]) (w1 ++ (mm ++ o :: b)) = w2 ++ (mm ++ o2 :: b) := by
  refine zins_of (by decide +kernel) (hsub_H hl2 h hm ho) (by simp only [List.length_append, List.length_cons, hl, hl2]) (fun j hj => ?_)
  have h1 : ¬ j < 53 := fun z => hj (by rw [rH, List.mem_append]; exact Or.inl (List.mem_range.mpr z))
  have h2 : j ≠ 63 := fun z => hj (by rw [rH, List.mem_append, z]; exact Or.inr List.mem_cons_self)
  rw [List.getElem?_append_right (show w2.length ≤ j by omega), List.getElem?_append_right (show w1.length ≤ j by omega), hl, hl2]
  by_cases h3 : j - 53 < 10
  · rw [List.getElem?_append_left (show j - 53 < mm.length by omega), List.getElem?_append_left (show j - 53 < mm.length by omega)]
  · rw [List.getElem?_append_right (show mm.length ≤ j - 53 by omega), List.getElem?_append_right (show mm.length ≤ j - 53 by omega), hm]
    have h4 : j - 53 - 10 = (j - 64) + 1 := by omega
    rw [h4]
    rfl
/-! the helpers -/
theorem wCS_len (c : zCS) : (wCS c).length = 53 := rfl
theorem wCS_ok (c : zCS) : zokw 53 (wCS c) := wC_ok _ _ _ _ _ _ _ _ _ _ _ _
/-- what a helper leaves: its code, the answer in its place -/
def LH (hc : String → Int) (r : zP × zCS) : zP → List zE → Prop := fun o w' => ∃ f : Int → Int, w' = wCS r.2 ++ [zA 2 1 f] ∧ ((∃ a, r.1 = .inl (some (zI a)) ∧ o = .inl (some (zI 0)) ∧ f 0 = (Int32.ofInt a).toInt) ∨ (∃ E, r.1 = .inr E ∧ o = .inl (some (zI (hc E)))))
def ShI (L : List String) (r : zP × zCS) : Prop := (∃ a, r.1 = .inl (some (zI a))) ∨ (∃ E, E ∈ L ∧ r.1 = .inr E)
theorem sh_ite {L : List String} {P : Prop} [Decidable P] {a b : zP × zCS} (ha : ShI L a) (hb : ShI L b) : ShI L (if P then a else b) := by split <;> assumption
theorem sh_i {L : List String} {a : Int} {c : zCS} : ShI L (.inl (some (zI a)), c) := Or.inl ⟨a, rfl⟩
theorem sh_e {L : List String} {E : String} {c : zCS} (h : E ∈ L) : ShI L (.inr E, c) := Or.inr ⟨E, h, rfl⟩
theorem lc_eIA : Cond.classLink RL 13 eIA ∈ lw_tbl := List.mem_of_getElem? (i := 623) (by decide +kernel)
theorem la_eIA : Cond.castable eIA eIA ∈ lw_tbl := List.mem_of_getElem? (i := 631) (by decide +kernel)
theorem lc_eIS : Cond.classLink RL 15 eIS ∈ lw_tbl := List.mem_of_getElem? (i := 624) (by decide +kernel)
theorem la_eIS : Cond.castable eIS eIS ∈ lw_tbl := List.mem_of_getElem? (i := 698) (by decide +kernel)
theorem lc_eIO : Cond.classLink RL 23 eIO ∈ lw_tbl := List.mem_of_getElem? (i := 727) (by decide +kernel)
theorem la_eIO : Cond.castable eIO eIO ∈ lw_tbl := List.mem_of_getElem? (i := 742) (by decide +kernel)
theorem sh_type (c : Int) (c0 : zCS) : ShI [eIA, eIS] (cs_type c c0) := by
  obtain ⟨t, nm, s, D, H, ol, ct, k, y, si, fl, wi⟩ := c0
  unfold cs_type
  repeat' (first | exact sh_i | exact sh_e (by simp) | apply sh_ite)
theorem hn_type_eIA : zHan q_L_type 4 eIA 1 := ⟨[], ⟨0, 9, 12, 13⟩, [⟨0, 9, 15, 15⟩], 3, rfl, (fun z hz => nomatch hz), ⟨rfl, by decide⟩, ⟨lc_eIA, la_eIA⟩, by decide, Or.inl ⟨3, rfl, dL_type_12, dL_type_13, dL_type_14⟩, rfl⟩
theorem hn_type_eIS : zHan q_L_type 4 eIS 2 := ⟨[⟨0, 9, 12, 13⟩], ⟨0, 9, 15, 15⟩, [], 3, rfl, (fun z hz => by rw [List.mem_singleton] at hz; subst hz; exact ⟨by decide, _, lc_eIA, rfl, by simp⟩), ⟨rfl, by decide⟩, ⟨lc_eIS, la_eIS⟩, by decide, Or.inl ⟨3, rfl, dL_type_15, dL_type_16, dL_type_17⟩, rfl⟩
set_option maxRecDepth 10000 in
theorem k_L_type (c0 : zCS) (h : okC c0) (fo : Int → Int) (c : Int) (hc : zin c) : zMet q_L_type 8 1 6 [zR 0, zI c, zR 53] (wCS c0 ++ [zA 2 1 fo]) (LH (cd2 eIA) (cs_type c c0)) := by
  refine z_introH (ls := [(0, zR 0), (1, zI c), (2, zR 53)]) (by decide +kernel) rfl (fun _ _ => rfl) (fun _ _ => Nat.le_of_ble_eq_true rfl) ?_
  refine wa_aload_n (pc' := 1) dL_type_0 rfl rfl rfl ?_
  refine wa_iconst (pc' := 2) dL_type_1 rfl ?_
  refine wa_aload_n (pc' := 3) dL_type_2 rfl rfl rfl ?_
  refine wa_iload_n (pc' := 4) dL_type_3 rfl rfl rfl ?_
  refine wa_callX (pc' := 7) (k_X9_type c0.1 c0.2.1 c0.2.2.1 c0.2.2.2.1 c0.2.2.2.2.1 c0.2.2.2.2.2.1 c0.2.2.2.2.2.2.1 c0.2.2.2.2.2.2.2.1 c0.2.2.2.2.2.2.2.2.1 c0.2.2.2.2.2.2.2.2.2.1 c0.2.2.2.2.2.2.2.2.2.2.1 c0.2.2.2.2.2.2.2.2.2.2.2 h c hc) ok_X9_type lm_L_7 dL_type_4 rfl (List.range 53) (hsub_pre (w1 := wCS c0) (wCS_ok c0)) List.nodup_range rfl rfl rfl rfl rfl (by decide) (by decide) (by decide) (by decide) (fun o w' h9 => by rw [h9.2]; rfl) (fun E w1' h9 => ?_) (fun v w1' h9 => ?_)
  · obtain ⟨h1, rfl⟩ := h9
    have hz : zins (zre (List.range 53)) (List.range 53) (wCS (cs_type c c0).2) (wCS c0 ++ [zA 2 1 fo]) = wCS (cs_type c c0).2 ++ [zA 2 1 fo] := zins_pre (w1 := wCS c0) rfl (wCS_ok _)
    rcases sh_type c c0 with ⟨a, ha⟩ | ⟨E1, hE, hE1⟩
    · exact nomatch h1.trans ha
    · have h3 : E = E1 := Sum.inr.inj (h1.trans hE1)
      subst h3
      simp only [List.mem_cons, List.not_mem_nil, or_false] at hE
      rcases hE with rfl | rfl
      · exact ⟨1, hn_type_eIA, fo, hz, Or.inr ⟨_, hE1, by decide +kernel⟩⟩
      · exact ⟨2, hn_type_eIS, fo, hz, Or.inr ⟨_, hE1, by decide +kernel⟩⟩
  obtain ⟨h1, rfl⟩ := h9
  have hz : zins (zre (List.range 53)) (List.range 53) (wCS (cs_type c c0).2) (wCS c0 ++ [zA 2 1 fo]) = wCS (cs_type c c0).2 ++ [zA 2 1 fo] := zins_pre (w1 := wCS c0) rfl (wCS_ok _)
  rcases sh_type c c0 with ⟨a, ha⟩ | ⟨E1, hE, hE1⟩
  rotate_left
  · exact nomatch h1.trans hE1
  have h3 : v = some (zI a) := Sum.inl.inj (h1.trans ha)
  subst h3
  show Wa _ _ _ _ _ _ _ _ [zI a, zI 0, zR 53] _ _ _
  rw [hz]
  refine wa_i2lG (pc' := 8) dL_type_7 rfl ?_
  refine wa_lastore (pc' := 9) (k := 53) (n := 1) (w' := wCS (cs_type c c0).2 ++ [zA 2 1 (zup fo 0 (Int32.ofInt a).toInt)]) dL_type_8 rfl rfl (by decide) (by decide) (by decide) rfl ?_
  refine wa_goto (pc' := 18) dL_type_9 (by decide) ?_
  refine wa_iconst (pc' := 19) dL_type_18 rfl ?_
  exact wa_iret dL_type_19 rfl (Nat.le_of_ble_eq_true rfl) (Nat.le_of_ble_eq_true rfl) ⟨_, rfl, Or.inl ⟨a, ha, rfl, by rfl⟩⟩
theorem sh_setWidth (w : Int) (c0 : zCS) : ShI [eIA] (cs_setWidth w c0) := by
  obtain ⟨t, nm, s, D, H, ol, ct, k, y, si, fl, wi⟩ := c0
  unfold cs_setWidth
  repeat' (first | exact sh_i | exact sh_e (by simp) | apply sh_ite)
theorem hn_setWidth_eIA : zHan q_L_setWidth 4 eIA 1 := ⟨[], ⟨0, 9, 12, 13⟩, [], 3, rfl, (fun z hz => nomatch hz), ⟨rfl, by decide⟩, ⟨lc_eIA, la_eIA⟩, by decide, Or.inl ⟨3, rfl, dL_setWidth_12, dL_setWidth_13, dL_setWidth_14⟩, rfl⟩
set_option maxRecDepth 10000 in
theorem k_L_setWidth (c0 : zCS) (h : okC c0) (fo : Int → Int) (w : Int) (hw : zin w) : zMet q_L_setWidth 8 1 6 [zR 0, zI w, zR 53] (wCS c0 ++ [zA 2 1 fo]) (LH cd1 (cs_setWidth w c0)) := by
  refine z_introH (ls := [(0, zR 0), (1, zI w), (2, zR 53)]) (by decide +kernel) rfl (fun _ _ => rfl) (fun _ _ => Nat.le_of_ble_eq_true rfl) ?_
  refine wa_aload_n (pc' := 1) dL_setWidth_0 rfl rfl rfl ?_
  refine wa_iconst (pc' := 2) dL_setWidth_1 rfl ?_
  refine wa_aload_n (pc' := 3) dL_setWidth_2 rfl rfl rfl ?_
  refine wa_iload_n (pc' := 4) dL_setWidth_3 rfl rfl rfl ?_
  refine wa_callX (pc' := 7) (k_X9_setWidth c0.1 c0.2.1 c0.2.2.1 c0.2.2.2.1 c0.2.2.2.2.1 c0.2.2.2.2.2.1 c0.2.2.2.2.2.2.1 c0.2.2.2.2.2.2.2.1 c0.2.2.2.2.2.2.2.2.1 c0.2.2.2.2.2.2.2.2.2.1 c0.2.2.2.2.2.2.2.2.2.2.1 c0.2.2.2.2.2.2.2.2.2.2.2 h w hw) ok_X9_setWidth lm_L_17 dL_setWidth_4 rfl (List.range 53) (hsub_pre (w1 := wCS c0) (wCS_ok c0)) List.nodup_range rfl rfl rfl rfl rfl (by decide) (by decide) (by decide) (by decide) (fun o w' h9 => by rw [h9.2]; rfl) (fun E w1' h9 => ?_) (fun v w1' h9 => ?_)
  · obtain ⟨h1, rfl⟩ := h9
    have hz : zins (zre (List.range 53)) (List.range 53) (wCS (cs_setWidth w c0).2) (wCS c0 ++ [zA 2 1 fo]) = wCS (cs_setWidth w c0).2 ++ [zA 2 1 fo] := zins_pre (w1 := wCS c0) rfl (wCS_ok _)
    rcases sh_setWidth w c0 with ⟨a, ha⟩ | ⟨E1, hE, hE1⟩
    · exact nomatch h1.trans ha
    · have h3 : E = E1 := Sum.inr.inj (h1.trans hE1)
      subst h3
      simp only [List.mem_cons, List.not_mem_nil, or_false] at hE
      subst hE
      exact ⟨1, hn_setWidth_eIA, fo, hz, Or.inr ⟨_, hE1, rfl⟩⟩
  obtain ⟨h1, rfl⟩ := h9
  have hz : zins (zre (List.range 53)) (List.range 53) (wCS (cs_setWidth w c0).2) (wCS c0 ++ [zA 2 1 fo]) = wCS (cs_setWidth w c0).2 ++ [zA 2 1 fo] := zins_pre (w1 := wCS c0) rfl (wCS_ok _)
  rcases sh_setWidth w c0 with ⟨a, ha⟩ | ⟨E1, hE, hE1⟩
  rotate_left
  · exact nomatch h1.trans hE1
  have h3 : v = some (zI a) := Sum.inl.inj (h1.trans ha)
  subst h3
  show Wa _ _ _ _ _ _ _ _ [zI a, zI 0, zR 53] _ _ _
  rw [hz]
  refine wa_i2lG (pc' := 8) dL_setWidth_7 rfl ?_
  refine wa_lastore (pc' := 9) (k := 53) (n := 1) (w' := wCS (cs_setWidth w c0).2 ++ [zA 2 1 (zup fo 0 (Int32.ofInt a).toInt)]) dL_setWidth_8 rfl rfl (by decide) (by decide) (by decide) rfl ?_
  refine wa_goto (pc' := 15) dL_setWidth_9 (by decide) ?_
  refine wa_iconst (pc' := 16) dL_setWidth_15 rfl ?_
  exact wa_iret dL_setWidth_16 rfl (Nat.le_of_ble_eq_true rfl) (Nat.le_of_ble_eq_true rfl) ⟨_, rfl, Or.inl ⟨a, ha, rfl, by rfl⟩⟩
theorem sh_lyrics (l : Int) (c0 : zCS) : ShI [eIO] (cs_lyrics l c0) := by
  obtain ⟨t, nm, s, D, H, ol, ct, k, y, si, fl, wi⟩ := c0
  unfold cs_lyrics
  repeat' (first | exact sh_i | exact sh_e (by simp) | apply sh_ite)
theorem hn_lyrics_eIO : zHan q_L_lyrics 4 eIO 1 := ⟨[], ⟨0, 9, 12, 23⟩, [], 3, rfl, (fun z hz => nomatch hz), ⟨rfl, by decide⟩, ⟨lc_eIO, la_eIO⟩, by decide, Or.inl ⟨3, rfl, dL_lyrics_12, dL_lyrics_13, dL_lyrics_14⟩, rfl⟩
set_option maxRecDepth 10000 in
theorem k_L_lyrics (c0 : zCS) (h : okC c0) (fo : Int → Int) (l : Int) (hl : zin l) : zMet q_L_lyrics 9 1 6 [zR 0, zI l, zR 53] (wCS c0 ++ [zA 2 1 fo]) (LH cd1 (cs_lyrics l c0)) := by
  refine z_introH (ls := [(0, zR 0), (1, zI l), (2, zR 53)]) (by decide +kernel) rfl (fun _ _ => rfl) (fun _ _ => Nat.le_of_ble_eq_true rfl) ?_
  refine wa_aload_n (pc' := 1) dL_lyrics_0 rfl rfl rfl ?_
  refine wa_iconst (pc' := 2) dL_lyrics_1 rfl ?_
  refine wa_aload_n (pc' := 3) dL_lyrics_2 rfl rfl rfl ?_
  refine wa_iload_n (pc' := 4) dL_lyrics_3 rfl rfl rfl ?_
  refine wa_callX (pc' := 7) (k_X9_lyrics c0.1 c0.2.1 c0.2.2.1 c0.2.2.2.1 c0.2.2.2.2.1 c0.2.2.2.2.2.1 c0.2.2.2.2.2.2.1 c0.2.2.2.2.2.2.2.1 c0.2.2.2.2.2.2.2.2.1 c0.2.2.2.2.2.2.2.2.2.1 c0.2.2.2.2.2.2.2.2.2.2.1 c0.2.2.2.2.2.2.2.2.2.2.2 h l hl) ok_X9_lyrics lm_L_20 dL_lyrics_4 rfl (List.range 53) (hsub_pre (w1 := wCS c0) (wCS_ok c0)) List.nodup_range rfl rfl rfl rfl rfl (by decide) (by decide) (by decide) (by decide) (fun o w' h9 => by rw [h9.2]; rfl) (fun E w1' h9 => ?_) (fun v w1' h9 => ?_)
  · obtain ⟨h1, rfl⟩ := h9
    have hz : zins (zre (List.range 53)) (List.range 53) (wCS (cs_lyrics l c0).2) (wCS c0 ++ [zA 2 1 fo]) = wCS (cs_lyrics l c0).2 ++ [zA 2 1 fo] := zins_pre (w1 := wCS c0) rfl (wCS_ok _)
    rcases sh_lyrics l c0 with ⟨a, ha⟩ | ⟨E1, hE, hE1⟩
    · exact nomatch h1.trans ha
    · have h3 : E = E1 := Sum.inr.inj (h1.trans hE1)
      subst h3
      simp only [List.mem_cons, List.not_mem_nil, or_false] at hE
      subst hE
      exact ⟨1, hn_lyrics_eIO, fo, hz, Or.inr ⟨_, hE1, rfl⟩⟩
  obtain ⟨h1, rfl⟩ := h9
  have hz : zins (zre (List.range 53)) (List.range 53) (wCS (cs_lyrics l c0).2) (wCS c0 ++ [zA 2 1 fo]) = wCS (cs_lyrics l c0).2 ++ [zA 2 1 fo] := zins_pre (w1 := wCS c0) rfl (wCS_ok _)
  rcases sh_lyrics l c0 with ⟨a, ha⟩ | ⟨E1, hE, hE1⟩
  rotate_left
  · exact nomatch h1.trans hE1
  have h3 : v = some (zI a) := Sum.inl.inj (h1.trans ha)
  subst h3
  show Wa _ _ _ _ _ _ _ _ [zI a, zI 0, zR 53] _ _ _
  rw [hz]
  refine wa_i2lG (pc' := 8) dL_lyrics_7 rfl ?_
  refine wa_lastore (pc' := 9) (k := 53) (n := 1) (w' := wCS (cs_lyrics l c0).2 ++ [zA 2 1 (zup fo 0 (Int32.ofInt a).toInt)]) dL_lyrics_8 rfl rfl (by decide) (by decide) (by decide) rfl ?_
  refine wa_goto (pc' := 15) dL_lyrics_9 (by decide) ?_
  refine wa_iconst (pc' := 16) dL_lyrics_15 rfl ?_
  exact wa_iret dL_lyrics_16 rfl (Nat.le_of_ble_eq_true rfl) (Nat.le_of_ble_eq_true rfl) ⟨_, rfl, Or.inl ⟨a, ha, rfl, by rfl⟩⟩
theorem sh_lyric (l : Int) (c : Int) (c0 : zCS) : ShI [eIO] (cs_lyric l c c0) := by
  obtain ⟨t, nm, s, D, H, ol, ct, k, y, si, fl, wi⟩ := c0
  unfold cs_lyric
  repeat' (first | exact sh_i | exact sh_e (by simp) | apply sh_ite)
theorem hn_lyric_eIO : zHan q_L_lyric 5 eIO 1 := ⟨[], ⟨0, 10, 13, 23⟩, [], 4, rfl, (fun z hz => nomatch hz), ⟨rfl, by decide⟩, ⟨lc_eIO, la_eIO⟩, by decide, Or.inr ⟨dL_lyric_13, dL_lyric_15, dL_lyric_16⟩, rfl⟩
set_option maxRecDepth 10000 in
theorem k_L_lyric (c0 : zCS) (h : okC c0) (fo : Int → Int) (l : Int) (hl : zin l) (c : Int) (hc : zin c) : zMet q_L_lyric 9 2 12 [zR 0, zI l, zI c, zR 53] (wCS c0 ++ [zA 2 1 fo]) (LH cd1 (cs_lyric l c c0)) := by
  refine z_introH (ls := [(0, zR 0), (1, zI l), (2, zI c), (3, zR 53)]) (by decide +kernel) rfl (fun _ _ => rfl) (fun _ _ => Nat.le_of_ble_eq_true rfl) ?_
  refine wa_aload_n (pc' := 1) dL_lyric_0 rfl rfl rfl ?_
  refine wa_iconst (pc' := 2) dL_lyric_1 rfl ?_
  refine wa_aload_n (pc' := 3) dL_lyric_2 rfl rfl rfl ?_
  refine wa_iload_n (pc' := 4) dL_lyric_3 rfl rfl rfl ?_
  refine wa_iload_n (pc' := 5) dL_lyric_4 rfl rfl rfl ?_
  refine wa_callX (pc' := 8) (k_X9_lyric c0.1 c0.2.1 c0.2.2.1 c0.2.2.2.1 c0.2.2.2.2.1 c0.2.2.2.2.2.1 c0.2.2.2.2.2.2.1 c0.2.2.2.2.2.2.2.1 c0.2.2.2.2.2.2.2.2.1 c0.2.2.2.2.2.2.2.2.2.1 c0.2.2.2.2.2.2.2.2.2.2.1 c0.2.2.2.2.2.2.2.2.2.2.2 h l hl c hc) ok_X9_lyric lm_L_25 dL_lyric_5 rfl (List.range 53) (hsub_pre (w1 := wCS c0) (wCS_ok c0)) List.nodup_range rfl rfl rfl rfl rfl (by decide) (by decide) (by decide) (by decide) (fun o w' h9 => by rw [h9.2]; rfl) (fun E w1' h9 => ?_) (fun v w1' h9 => ?_)
  · obtain ⟨h1, rfl⟩ := h9
    have hz : zins (zre (List.range 53)) (List.range 53) (wCS (cs_lyric l c c0).2) (wCS c0 ++ [zA 2 1 fo]) = wCS (cs_lyric l c c0).2 ++ [zA 2 1 fo] := zins_pre (w1 := wCS c0) rfl (wCS_ok _)
    rcases sh_lyric l c c0 with ⟨a, ha⟩ | ⟨E1, hE, hE1⟩
    · exact nomatch h1.trans ha
    · have h3 : E = E1 := Sum.inr.inj (h1.trans hE1)
      subst h3
      simp only [List.mem_cons, List.not_mem_nil, or_false] at hE
      subst hE
      exact ⟨1, hn_lyric_eIO, fo, hz, Or.inr ⟨_, hE1, rfl⟩⟩
  obtain ⟨h1, rfl⟩ := h9
  have hz : zins (zre (List.range 53)) (List.range 53) (wCS (cs_lyric l c c0).2) (wCS c0 ++ [zA 2 1 fo]) = wCS (cs_lyric l c c0).2 ++ [zA 2 1 fo] := zins_pre (w1 := wCS c0) rfl (wCS_ok _)
  rcases sh_lyric l c c0 with ⟨a, ha⟩ | ⟨E1, hE, hE1⟩
  rotate_left
  · exact nomatch h1.trans hE1
  have h3 : v = some (zI a) := Sum.inl.inj (h1.trans ha)
  subst h3
  show Wa _ _ _ _ _ _ _ _ [zI a, zI 0, zR 53] _ _ _
  rw [hz]
  refine wa_i2lG (pc' := 9) dL_lyric_8 rfl ?_
  refine wa_lastore (pc' := 10) (k := 53) (n := 1) (w' := wCS (cs_lyric l c c0).2 ++ [zA 2 1 (zup fo 0 (Int32.ofInt a).toInt)]) dL_lyric_9 rfl rfl (by decide) (by decide) (by decide) rfl ?_
  refine wa_goto (pc' := 17) dL_lyric_10 (by decide) ?_
  refine wa_iconst (pc' := 18) dL_lyric_17 rfl ?_
  exact wa_iret dL_lyric_18 rfl (Nat.le_of_ble_eq_true rfl) (Nat.le_of_ble_eq_true rfl) ⟨_, rfl, Or.inl ⟨a, ha, rfl, by rfl⟩⟩
theorem sh_lineOf (i : Int) (c0 : zCS) : ShI [eIO] (cs_lineOf i c0) := by
  obtain ⟨t, nm, s, D, H, ol, ct, k, y, si, fl, wi⟩ := c0
  unfold cs_lineOf
  repeat' (first | exact sh_i | exact sh_e (by simp) | apply sh_ite)
theorem hn_lineOf_eIO : zHan q_L_lineOf 4 eIO 1 := ⟨[], ⟨0, 9, 12, 23⟩, [], 3, rfl, (fun z hz => nomatch hz), ⟨rfl, by decide⟩, ⟨lc_eIO, la_eIO⟩, by decide, Or.inl ⟨3, rfl, dL_lineOf_12, dL_lineOf_13, dL_lineOf_14⟩, rfl⟩
set_option maxRecDepth 10000 in
theorem k_L_lineOf (c0 : zCS) (h : okC c0) (fo : Int → Int) (i : Int) (hi : zin i) : zMet q_L_lineOf 9 1 6 [zR 0, zI i, zR 53] (wCS c0 ++ [zA 2 1 fo]) (LH cd1 (cs_lineOf i c0)) := by
  refine z_introH (ls := [(0, zR 0), (1, zI i), (2, zR 53)]) (by decide +kernel) rfl (fun _ _ => rfl) (fun _ _ => Nat.le_of_ble_eq_true rfl) ?_
  refine wa_aload_n (pc' := 1) dL_lineOf_0 rfl rfl rfl ?_
  refine wa_iconst (pc' := 2) dL_lineOf_1 rfl ?_
  refine wa_aload_n (pc' := 3) dL_lineOf_2 rfl rfl rfl ?_
  refine wa_iload_n (pc' := 4) dL_lineOf_3 rfl rfl rfl ?_
  refine wa_callX (pc' := 7) (k_X9_lineOf c0.1 c0.2.1 c0.2.2.1 c0.2.2.2.1 c0.2.2.2.2.1 c0.2.2.2.2.2.1 c0.2.2.2.2.2.2.1 c0.2.2.2.2.2.2.2.1 c0.2.2.2.2.2.2.2.2.1 c0.2.2.2.2.2.2.2.2.2.1 c0.2.2.2.2.2.2.2.2.2.2.1 c0.2.2.2.2.2.2.2.2.2.2.2 h i hi) ok_X9_lineOf lm_L_29 dL_lineOf_4 rfl (List.range 53) (hsub_pre (w1 := wCS c0) (wCS_ok c0)) List.nodup_range rfl rfl rfl rfl rfl (by decide) (by decide) (by decide) (by decide) (fun o w' h9 => by rw [h9.2]; rfl) (fun E w1' h9 => ?_) (fun v w1' h9 => ?_)
  · obtain ⟨h1, rfl⟩ := h9
    have hz : zins (zre (List.range 53)) (List.range 53) (wCS (cs_lineOf i c0).2) (wCS c0 ++ [zA 2 1 fo]) = wCS (cs_lineOf i c0).2 ++ [zA 2 1 fo] := zins_pre (w1 := wCS c0) rfl (wCS_ok _)
    rcases sh_lineOf i c0 with ⟨a, ha⟩ | ⟨E1, hE, hE1⟩
    · exact nomatch h1.trans ha
    · have h3 : E = E1 := Sum.inr.inj (h1.trans hE1)
      subst h3
      simp only [List.mem_cons, List.not_mem_nil, or_false] at hE
      subst hE
      exact ⟨1, hn_lineOf_eIO, fo, hz, Or.inr ⟨_, hE1, rfl⟩⟩
  obtain ⟨h1, rfl⟩ := h9
  have hz : zins (zre (List.range 53)) (List.range 53) (wCS (cs_lineOf i c0).2) (wCS c0 ++ [zA 2 1 fo]) = wCS (cs_lineOf i c0).2 ++ [zA 2 1 fo] := zins_pre (w1 := wCS c0) rfl (wCS_ok _)
  rcases sh_lineOf i c0 with ⟨a, ha⟩ | ⟨E1, hE, hE1⟩
  rotate_left
  · exact nomatch h1.trans hE1
  have h3 : v = some (zI a) := Sum.inl.inj (h1.trans ha)
  subst h3
  show Wa _ _ _ _ _ _ _ _ [zI a, zI 0, zR 53] _ _ _
  rw [hz]
  refine wa_i2lG (pc' := 8) dL_lineOf_7 rfl ?_
  refine wa_lastore (pc' := 9) (k := 53) (n := 1) (w' := wCS (cs_lineOf i c0).2 ++ [zA 2 1 (zup fo 0 (Int32.ofInt a).toInt)]) dL_lineOf_8 rfl rfl (by decide) (by decide) (by decide) rfl ?_
  refine wa_goto (pc' := 15) dL_lineOf_9 (by decide) ?_
  refine wa_iconst (pc' := 16) dL_lineOf_15 rfl ?_
  exact wa_iret dL_lineOf_16 rfl (Nat.le_of_ble_eq_true rfl) (Nat.le_of_ble_eq_true rfl) ⟨_, rfl, Or.inl ⟨a, ha, rfl, by rfl⟩⟩
theorem sh_columnOf (i : Int) (c0 : zCS) : ShI [eIO] (cs_columnOf i c0) := by
  obtain ⟨t, nm, s, D, H, ol, ct, k, y, si, fl, wi⟩ := c0
  unfold cs_columnOf
  repeat' (first | exact sh_i | exact sh_e (by simp) | apply sh_ite)
theorem hn_columnOf_eIO : zHan q_L_columnOf 4 eIO 1 := ⟨[], ⟨0, 9, 12, 23⟩, [], 3, rfl, (fun z hz => nomatch hz), ⟨rfl, by decide⟩, ⟨lc_eIO, la_eIO⟩, by decide, Or.inl ⟨3, rfl, dL_columnOf_12, dL_columnOf_13, dL_columnOf_14⟩, rfl⟩
set_option maxRecDepth 10000 in
theorem k_L_columnOf (c0 : zCS) (h : okC c0) (fo : Int → Int) (i : Int) (hi : zin i) : zMet q_L_columnOf 9 1 6 [zR 0, zI i, zR 53] (wCS c0 ++ [zA 2 1 fo]) (LH cd1 (cs_columnOf i c0)) := by
  refine z_introH (ls := [(0, zR 0), (1, zI i), (2, zR 53)]) (by decide +kernel) rfl (fun _ _ => rfl) (fun _ _ => Nat.le_of_ble_eq_true rfl) ?_
  refine wa_aload_n (pc' := 1) dL_columnOf_0 rfl rfl rfl ?_
  refine wa_iconst (pc' := 2) dL_columnOf_1 rfl ?_
  refine wa_aload_n (pc' := 3) dL_columnOf_2 rfl rfl rfl ?_
  refine wa_iload_n (pc' := 4) dL_columnOf_3 rfl rfl rfl ?_
  refine wa_callX (pc' := 7) (k_X9_columnOf c0.1 c0.2.1 c0.2.2.1 c0.2.2.2.1 c0.2.2.2.2.1 c0.2.2.2.2.2.1 c0.2.2.2.2.2.2.1 c0.2.2.2.2.2.2.2.1 c0.2.2.2.2.2.2.2.2.1 c0.2.2.2.2.2.2.2.2.2.1 c0.2.2.2.2.2.2.2.2.2.2.1 c0.2.2.2.2.2.2.2.2.2.2.2 h i hi) ok_X9_columnOf lm_L_32 dL_columnOf_4 rfl (List.range 53) (hsub_pre (w1 := wCS c0) (wCS_ok c0)) List.nodup_range rfl rfl rfl rfl rfl (by decide) (by decide) (by decide) (by decide) (fun o w' h9 => by rw [h9.2]; rfl) (fun E w1' h9 => ?_) (fun v w1' h9 => ?_)
  · obtain ⟨h1, rfl⟩ := h9
    have hz : zins (zre (List.range 53)) (List.range 53) (wCS (cs_columnOf i c0).2) (wCS c0 ++ [zA 2 1 fo]) = wCS (cs_columnOf i c0).2 ++ [zA 2 1 fo] := zins_pre (w1 := wCS c0) rfl (wCS_ok _)
    rcases sh_columnOf i c0 with ⟨a, ha⟩ | ⟨E1, hE, hE1⟩
    · exact nomatch h1.trans ha
    · have h3 : E = E1 := Sum.inr.inj (h1.trans hE1)
      subst h3
      simp only [List.mem_cons, List.not_mem_nil, or_false] at hE
      subst hE
      exact ⟨1, hn_columnOf_eIO, fo, hz, Or.inr ⟨_, hE1, rfl⟩⟩
  obtain ⟨h1, rfl⟩ := h9
  have hz : zins (zre (List.range 53)) (List.range 53) (wCS (cs_columnOf i c0).2) (wCS c0 ++ [zA 2 1 fo]) = wCS (cs_columnOf i c0).2 ++ [zA 2 1 fo] := zins_pre (w1 := wCS c0) rfl (wCS_ok _)
  rcases sh_columnOf i c0 with ⟨a, ha⟩ | ⟨E1, hE, hE1⟩
  rotate_left
  · exact nomatch h1.trans hE1
  have h3 : v = some (zI a) := Sum.inl.inj (h1.trans ha)
  subst h3
  show Wa _ _ _ _ _ _ _ _ [zI a, zI 0, zR 53] _ _ _
  rw [hz]
  refine wa_i2lG (pc' := 8) dL_columnOf_7 rfl ?_
  refine wa_lastore (pc' := 9) (k := 53) (n := 1) (w' := wCS (cs_columnOf i c0).2 ++ [zA 2 1 (zup fo 0 (Int32.ofInt a).toInt)]) dL_columnOf_8 rfl rfl (by decide) (by decide) (by decide) rfl ?_
  refine wa_goto (pc' := 15) dL_columnOf_9 (by decide) ?_
  refine wa_iconst (pc' := 16) dL_columnOf_15 rfl ?_
  exact wa_iret dL_columnOf_16 rfl (Nat.le_of_ble_eq_true rfl) (Nat.le_of_ble_eq_true rfl) ⟨_, rfl, Or.inl ⟨a, ha, rfl, by rfl⟩⟩
theorem sh_rootOf (i : Int) (c0 : zCS) : ShI [eIO] (cs_rootOf i c0) := by
  obtain ⟨t, nm, s, D, H, ol, ct, k, y, si, fl, wi⟩ := c0
  unfold cs_rootOf
  repeat' (first | exact sh_i | exact sh_e (by simp) | apply sh_ite)
theorem hn_rootOf_eIO : zHan q_L_rootOf 4 eIO 1 := ⟨[], ⟨0, 9, 12, 23⟩, [], 3, rfl, (fun z hz => nomatch hz), ⟨rfl, by decide⟩, ⟨lc_eIO, la_eIO⟩, by decide, Or.inl ⟨3, rfl, dL_rootOf_12, dL_rootOf_13, dL_rootOf_14⟩, rfl⟩
set_option maxRecDepth 10000 in
theorem k_L_rootOf (c0 : zCS) (h : okC c0) (fo : Int → Int) (i : Int) (hi : zin i) : zMet q_L_rootOf 9 1 6 [zR 0, zI i, zR 53] (wCS c0 ++ [zA 2 1 fo]) (LH cd1 (cs_rootOf i c0)) := by
  refine z_introH (ls := [(0, zR 0), (1, zI i), (2, zR 53)]) (by decide +kernel) rfl (fun _ _ => rfl) (fun _ _ => Nat.le_of_ble_eq_true rfl) ?_
  refine wa_aload_n (pc' := 1) dL_rootOf_0 rfl rfl rfl ?_
  refine wa_iconst (pc' := 2) dL_rootOf_1 rfl ?_
  refine wa_aload_n (pc' := 3) dL_rootOf_2 rfl rfl rfl ?_
  refine wa_iload_n (pc' := 4) dL_rootOf_3 rfl rfl rfl ?_
  refine wa_callX (pc' := 7) (k_X9_rootOf c0.1 c0.2.1 c0.2.2.1 c0.2.2.2.1 c0.2.2.2.2.1 c0.2.2.2.2.2.1 c0.2.2.2.2.2.2.1 c0.2.2.2.2.2.2.2.1 c0.2.2.2.2.2.2.2.2.1 c0.2.2.2.2.2.2.2.2.2.1 c0.2.2.2.2.2.2.2.2.2.2.1 c0.2.2.2.2.2.2.2.2.2.2.2 h i hi) ok_X9_rootOf lm_L_35 dL_rootOf_4 rfl (List.range 53) (hsub_pre (w1 := wCS c0) (wCS_ok c0)) List.nodup_range rfl rfl rfl rfl rfl (by decide) (by decide) (by decide) (by decide) (fun o w' h9 => by rw [h9.2]; rfl) (fun E w1' h9 => ?_) (fun v w1' h9 => ?_)
  · obtain ⟨h1, rfl⟩ := h9
    have hz : zins (zre (List.range 53)) (List.range 53) (wCS (cs_rootOf i c0).2) (wCS c0 ++ [zA 2 1 fo]) = wCS (cs_rootOf i c0).2 ++ [zA 2 1 fo] := zins_pre (w1 := wCS c0) rfl (wCS_ok _)
    rcases sh_rootOf i c0 with ⟨a, ha⟩ | ⟨E1, hE, hE1⟩
    · exact nomatch h1.trans ha
    · have h3 : E = E1 := Sum.inr.inj (h1.trans hE1)
      subst h3
      simp only [List.mem_cons, List.not_mem_nil, or_false] at hE
      subst hE
      exact ⟨1, hn_rootOf_eIO, fo, hz, Or.inr ⟨_, hE1, rfl⟩⟩
  obtain ⟨h1, rfl⟩ := h9
  have hz : zins (zre (List.range 53)) (List.range 53) (wCS (cs_rootOf i c0).2) (wCS c0 ++ [zA 2 1 fo]) = wCS (cs_rootOf i c0).2 ++ [zA 2 1 fo] := zins_pre (w1 := wCS c0) rfl (wCS_ok _)
  rcases sh_rootOf i c0 with ⟨a, ha⟩ | ⟨E1, hE, hE1⟩
  rotate_left
  · exact nomatch h1.trans hE1
  have h3 : v = some (zI a) := Sum.inl.inj (h1.trans ha)
  subst h3
  show Wa _ _ _ _ _ _ _ _ [zI a, zI 0, zR 53] _ _ _
  rw [hz]
  refine wa_i2lG (pc' := 8) dL_rootOf_7 rfl ?_
  refine wa_lastore (pc' := 9) (k := 53) (n := 1) (w' := wCS (cs_rootOf i c0).2 ++ [zA 2 1 (zup fo 0 (Int32.ofInt a).toInt)]) dL_rootOf_8 rfl rfl (by decide) (by decide) (by decide) rfl ?_
  refine wa_goto (pc' := 15) dL_rootOf_9 (by decide) ?_
  refine wa_iconst (pc' := 16) dL_rootOf_15 rfl ?_
  exact wa_iret dL_rootOf_16 rfl (Nat.le_of_ble_eq_true rfl) (Nat.le_of_ble_eq_true rfl) ⟨_, rfl, Or.inl ⟨a, ha, rfl, by rfl⟩⟩
theorem sh_qualityOf (i : Int) (c0 : zCS) : ShI [eIO] (cs_qualityOf i c0) := by
  obtain ⟨t, nm, s, D, H, ol, ct, k, y, si, fl, wi⟩ := c0
  unfold cs_qualityOf
  repeat' (first | exact sh_i | exact sh_e (by simp) | apply sh_ite)
theorem hn_qualityOf_eIO : zHan q_L_qualityOf 4 eIO 1 := ⟨[], ⟨0, 9, 12, 23⟩, [], 3, rfl, (fun z hz => nomatch hz), ⟨rfl, by decide⟩, ⟨lc_eIO, la_eIO⟩, by decide, Or.inl ⟨3, rfl, dL_qualityOf_12, dL_qualityOf_13, dL_qualityOf_14⟩, rfl⟩
set_option maxRecDepth 10000 in
theorem k_L_qualityOf (c0 : zCS) (h : okC c0) (fo : Int → Int) (i : Int) (hi : zin i) : zMet q_L_qualityOf 9 1 6 [zR 0, zI i, zR 53] (wCS c0 ++ [zA 2 1 fo]) (LH cd1 (cs_qualityOf i c0)) := by
  refine z_introH (ls := [(0, zR 0), (1, zI i), (2, zR 53)]) (by decide +kernel) rfl (fun _ _ => rfl) (fun _ _ => Nat.le_of_ble_eq_true rfl) ?_
  refine wa_aload_n (pc' := 1) dL_qualityOf_0 rfl rfl rfl ?_
  refine wa_iconst (pc' := 2) dL_qualityOf_1 rfl ?_
  refine wa_aload_n (pc' := 3) dL_qualityOf_2 rfl rfl rfl ?_
  refine wa_iload_n (pc' := 4) dL_qualityOf_3 rfl rfl rfl ?_
  refine wa_callX (pc' := 7) (k_X9_qualityOf c0.1 c0.2.1 c0.2.2.1 c0.2.2.2.1 c0.2.2.2.2.1 c0.2.2.2.2.2.1 c0.2.2.2.2.2.2.1 c0.2.2.2.2.2.2.2.1 c0.2.2.2.2.2.2.2.2.1 c0.2.2.2.2.2.2.2.2.2.1 c0.2.2.2.2.2.2.2.2.2.2.1 c0.2.2.2.2.2.2.2.2.2.2.2 h i hi) ok_X9_qualityOf lm_L_38 dL_qualityOf_4 rfl (List.range 53) (hsub_pre (w1 := wCS c0) (wCS_ok c0)) List.nodup_range rfl rfl rfl rfl rfl (by decide) (by decide) (by decide) (by decide) (fun o w' h9 => by rw [h9.2]; rfl) (fun E w1' h9 => ?_) (fun v w1' h9 => ?_)
  · obtain ⟨h1, rfl⟩ := h9
    have hz : zins (zre (List.range 53)) (List.range 53) (wCS (cs_qualityOf i c0).2) (wCS c0 ++ [zA 2 1 fo]) = wCS (cs_qualityOf i c0).2 ++ [zA 2 1 fo] := zins_pre (w1 := wCS c0) rfl (wCS_ok _)
    rcases sh_qualityOf i c0 with ⟨a, ha⟩ | ⟨E1, hE, hE1⟩
    · exact nomatch h1.trans ha
    · have h3 : E = E1 := Sum.inr.inj (h1.trans hE1)
      subst h3
      simp only [List.mem_cons, List.not_mem_nil, or_false] at hE
      subst hE
      exact ⟨1, hn_qualityOf_eIO, fo, hz, Or.inr ⟨_, hE1, rfl⟩⟩
  obtain ⟨h1, rfl⟩ := h9
  have hz : zins (zre (List.range 53)) (List.range 53) (wCS (cs_qualityOf i c0).2) (wCS c0 ++ [zA 2 1 fo]) = wCS (cs_qualityOf i c0).2 ++ [zA 2 1 fo] := zins_pre (w1 := wCS c0) rfl (wCS_ok _)
  rcases sh_qualityOf i c0 with ⟨a, ha⟩ | ⟨E1, hE, hE1⟩
  rotate_left
  · exact nomatch h1.trans hE1
  have h3 : v = some (zI a) := Sum.inl.inj (h1.trans ha)
  subst h3
  show Wa _ _ _ _ _ _ _ _ [zI a, zI 0, zR 53] _ _ _
  rw [hz]
  refine wa_i2lG (pc' := 8) dL_qualityOf_7 rfl ?_
  refine wa_lastore (pc' := 9) (k := 53) (n := 1) (w' := wCS (cs_qualityOf i c0).2 ++ [zA 2 1 (zup fo 0 (Int32.ofInt a).toInt)]) dL_qualityOf_8 rfl rfl (by decide) (by decide) (by decide) rfl ?_
  refine wa_goto (pc' := 15) dL_qualityOf_9 (by decide) ?_
  refine wa_iconst (pc' := 16) dL_qualityOf_15 rfl ?_
  exact wa_iret dL_qualityOf_16 rfl (Nat.le_of_ble_eq_true rfl) (Nat.le_of_ble_eq_true rfl) ⟨_, rfl, Or.inl ⟨a, ha, rfl, by rfl⟩⟩
theorem sh_bassOf (i : Int) (c0 : zCS) : ShI [eIO] (cs_bassOf i c0) := by
  obtain ⟨t, nm, s, D, H, ol, ct, k, y, si, fl, wi⟩ := c0
  unfold cs_bassOf
  repeat' (first | exact sh_i | exact sh_e (by simp) | apply sh_ite)
theorem hn_bassOf_eIO : zHan q_L_bassOf 4 eIO 1 := ⟨[], ⟨0, 9, 12, 23⟩, [], 3, rfl, (fun z hz => nomatch hz), ⟨rfl, by decide⟩, ⟨lc_eIO, la_eIO⟩, by decide, Or.inl ⟨3, rfl, dL_bassOf_12, dL_bassOf_13, dL_bassOf_14⟩, rfl⟩
set_option maxRecDepth 10000 in
theorem k_L_bassOf (c0 : zCS) (h : okC c0) (fo : Int → Int) (i : Int) (hi : zin i) : zMet q_L_bassOf 9 1 6 [zR 0, zI i, zR 53] (wCS c0 ++ [zA 2 1 fo]) (LH cd1 (cs_bassOf i c0)) := by
  refine z_introH (ls := [(0, zR 0), (1, zI i), (2, zR 53)]) (by decide +kernel) rfl (fun _ _ => rfl) (fun _ _ => Nat.le_of_ble_eq_true rfl) ?_
  refine wa_aload_n (pc' := 1) dL_bassOf_0 rfl rfl rfl ?_
  refine wa_iconst (pc' := 2) dL_bassOf_1 rfl ?_
  refine wa_aload_n (pc' := 3) dL_bassOf_2 rfl rfl rfl ?_
  refine wa_iload_n (pc' := 4) dL_bassOf_3 rfl rfl rfl ?_
  refine wa_callX (pc' := 7) (k_X9_bassOf c0.1 c0.2.1 c0.2.2.1 c0.2.2.2.1 c0.2.2.2.2.1 c0.2.2.2.2.2.1 c0.2.2.2.2.2.2.1 c0.2.2.2.2.2.2.2.1 c0.2.2.2.2.2.2.2.2.1 c0.2.2.2.2.2.2.2.2.2.1 c0.2.2.2.2.2.2.2.2.2.2.1 c0.2.2.2.2.2.2.2.2.2.2.2 h i hi) ok_X9_bassOf lm_L_41 dL_bassOf_4 rfl (List.range 53) (hsub_pre (w1 := wCS c0) (wCS_ok c0)) List.nodup_range rfl rfl rfl rfl rfl (by decide) (by decide) (by decide) (by decide) (fun o w' h9 => by rw [h9.2]; rfl) (fun E w1' h9 => ?_) (fun v w1' h9 => ?_)
  · obtain ⟨h1, rfl⟩ := h9
    have hz : zins (zre (List.range 53)) (List.range 53) (wCS (cs_bassOf i c0).2) (wCS c0 ++ [zA 2 1 fo]) = wCS (cs_bassOf i c0).2 ++ [zA 2 1 fo] := zins_pre (w1 := wCS c0) rfl (wCS_ok _)
    rcases sh_bassOf i c0 with ⟨a, ha⟩ | ⟨E1, hE, hE1⟩
    · exact nomatch h1.trans ha
    · have h3 : E = E1 := Sum.inr.inj (h1.trans hE1)
      subst h3
      simp only [List.mem_cons, List.not_mem_nil, or_false] at hE
      subst hE
      exact ⟨1, hn_bassOf_eIO, fo, hz, Or.inr ⟨_, hE1, rfl⟩⟩
  obtain ⟨h1, rfl⟩ := h9
  have hz : zins (zre (List.range 53)) (List.range 53) (wCS (cs_bassOf i c0).2) (wCS c0 ++ [zA 2 1 fo]) = wCS (cs_bassOf i c0).2 ++ [zA 2 1 fo] := zins_pre (w1 := wCS c0) rfl (wCS_ok _)
  rcases sh_bassOf i c0 with ⟨a, ha⟩ | ⟨E1, hE, hE1⟩
  rotate_left
  · exact nomatch h1.trans hE1
  have h3 : v = some (zI a) := Sum.inl.inj (h1.trans ha)
  subst h3
  show Wa _ _ _ _ _ _ _ _ [zI a, zI 0, zR 53] _ _ _
  rw [hz]
  refine wa_i2lG (pc' := 8) dL_bassOf_7 rfl ?_
  refine wa_lastore (pc' := 9) (k := 53) (n := 1) (w' := wCS (cs_bassOf i c0).2 ++ [zA 2 1 (zup fo 0 (Int32.ofInt a).toInt)]) dL_bassOf_8 rfl rfl (by decide) (by decide) (by decide) rfl ?_
  refine wa_goto (pc' := 15) dL_bassOf_9 (by decide) ?_
  refine wa_iconst (pc' := 16) dL_bassOf_15 rfl ?_
  exact wa_iret dL_bassOf_16 rfl (Nat.le_of_ble_eq_true rfl) (Nat.le_of_ble_eq_true rfl) ⟨_, rfl, Or.inl ⟨a, ha, rfl, by rfl⟩⟩
theorem sh_nameChar (i : Int) (c : Int) (c0 : zCS) : ShI [eIO] (cs_nameChar i c c0) := by
  obtain ⟨t, nm, s, D, H, ol, ct, k, y, si, fl, wi⟩ := c0
  unfold cs_nameChar
  repeat' (first | exact sh_i | exact sh_e (by simp) | apply sh_ite)
theorem hn_nameChar_eIO : zHan q_L_nameChar 5 eIO 1 := ⟨[], ⟨0, 10, 13, 23⟩, [], 4, rfl, (fun z hz => nomatch hz), ⟨rfl, by decide⟩, ⟨lc_eIO, la_eIO⟩, by decide, Or.inr ⟨dL_nameChar_13, dL_nameChar_15, dL_nameChar_16⟩, rfl⟩
set_option maxRecDepth 10000 in
theorem k_L_nameChar (c0 : zCS) (h : okC c0) (fo : Int → Int) (i : Int) (hi : zin i) (c : Int) (hc : zin c) : zMet q_L_nameChar 9 2 12 [zR 0, zI i, zI c, zR 53] (wCS c0 ++ [zA 2 1 fo]) (LH cd1 (cs_nameChar i c c0)) := by
  refine z_introH (ls := [(0, zR 0), (1, zI i), (2, zI c), (3, zR 53)]) (by decide +kernel) rfl (fun _ _ => rfl) (fun _ _ => Nat.le_of_ble_eq_true rfl) ?_
  refine wa_aload_n (pc' := 1) dL_nameChar_0 rfl rfl rfl ?_
  refine wa_iconst (pc' := 2) dL_nameChar_1 rfl ?_
  refine wa_aload_n (pc' := 3) dL_nameChar_2 rfl rfl rfl ?_
  refine wa_iload_n (pc' := 4) dL_nameChar_3 rfl rfl rfl ?_
  refine wa_iload_n (pc' := 5) dL_nameChar_4 rfl rfl rfl ?_
  refine wa_callX (pc' := 8) (k_X9_nameChar c0.1 c0.2.1 c0.2.2.1 c0.2.2.2.1 c0.2.2.2.2.1 c0.2.2.2.2.2.1 c0.2.2.2.2.2.2.1 c0.2.2.2.2.2.2.2.1 c0.2.2.2.2.2.2.2.2.1 c0.2.2.2.2.2.2.2.2.2.1 c0.2.2.2.2.2.2.2.2.2.2.1 c0.2.2.2.2.2.2.2.2.2.2.2 h i hi c hc) ok_X9_nameChar lm_L_44 dL_nameChar_5 rfl (List.range 53) (hsub_pre (w1 := wCS c0) (wCS_ok c0)) List.nodup_range rfl rfl rfl rfl rfl (by decide) (by decide) (by decide) (by decide) (fun o w' h9 => by rw [h9.2]; rfl) (fun E w1' h9 => ?_) (fun v w1' h9 => ?_)
  · obtain ⟨h1, rfl⟩ := h9
    have hz : zins (zre (List.range 53)) (List.range 53) (wCS (cs_nameChar i c c0).2) (wCS c0 ++ [zA 2 1 fo]) = wCS (cs_nameChar i c c0).2 ++ [zA 2 1 fo] := zins_pre (w1 := wCS c0) rfl (wCS_ok _)
    rcases sh_nameChar i c c0 with ⟨a, ha⟩ | ⟨E1, hE, hE1⟩
    · exact nomatch h1.trans ha
    · have h3 : E = E1 := Sum.inr.inj (h1.trans hE1)
      subst h3
      simp only [List.mem_cons, List.not_mem_nil, or_false] at hE
      subst hE
      exact ⟨1, hn_nameChar_eIO, fo, hz, Or.inr ⟨_, hE1, rfl⟩⟩
  obtain ⟨h1, rfl⟩ := h9
  have hz : zins (zre (List.range 53)) (List.range 53) (wCS (cs_nameChar i c c0).2) (wCS c0 ++ [zA 2 1 fo]) = wCS (cs_nameChar i c c0).2 ++ [zA 2 1 fo] := zins_pre (w1 := wCS c0) rfl (wCS_ok _)
  rcases sh_nameChar i c c0 with ⟨a, ha⟩ | ⟨E1, hE, hE1⟩
  rotate_left
  · exact nomatch h1.trans hE1
  have h3 : v = some (zI a) := Sum.inl.inj (h1.trans ha)
  subst h3
  show Wa _ _ _ _ _ _ _ _ [zI a, zI 0, zR 53] _ _ _
  rw [hz]
  refine wa_i2lG (pc' := 9) dL_nameChar_8 rfl ?_
  refine wa_lastore (pc' := 10) (k := 53) (n := 1) (w' := wCS (cs_nameChar i c c0).2 ++ [zA 2 1 (zup fo 0 (Int32.ofInt a).toInt)]) dL_nameChar_9 rfl rfl (by decide) (by decide) (by decide) rfl ?_
  refine wa_goto (pc' := 17) dL_nameChar_10 (by decide) ?_
  refine wa_iconst (pc' := 18) dL_nameChar_17 rfl ?_
  exact wa_iret dL_nameChar_18 rfl (Nat.le_of_ble_eq_true rfl) (Nat.le_of_ble_eq_true rfl) ⟨_, rfl, Or.inl ⟨a, ha, rfl, by rfl⟩⟩
theorem sh_setChord (i : Int) (c0 : zCS) : ShI [eIO] (cs_setChord i c0) := by
  obtain ⟨t, nm, s, D, H, ol, ct, k, y, si, fl, wi⟩ := c0
  unfold cs_setChord
  repeat' (first | exact sh_i | exact sh_e (by simp) | apply sh_ite)
theorem hn_setChord_eIO : zHan q_L_setChord 4 eIO 1 := ⟨[], ⟨0, 9, 12, 23⟩, [], 3, rfl, (fun z hz => nomatch hz), ⟨rfl, by decide⟩, ⟨lc_eIO, la_eIO⟩, by decide, Or.inl ⟨3, rfl, dL_setChord_12, dL_setChord_13, dL_setChord_14⟩, rfl⟩
set_option maxRecDepth 10000 in
theorem k_L_setChord (c0 : zCS) (h : okC c0) (fo : Int → Int) (i : Int) (hi : zin i) : zMet q_L_setChord 9 1 6 [zR 0, zI i, zR 53] (wCS c0 ++ [zA 2 1 fo]) (LH cd1 (cs_setChord i c0)) := by
  refine z_introH (ls := [(0, zR 0), (1, zI i), (2, zR 53)]) (by decide +kernel) rfl (fun _ _ => rfl) (fun _ _ => Nat.le_of_ble_eq_true rfl) ?_
  refine wa_aload_n (pc' := 1) dL_setChord_0 rfl rfl rfl ?_
  refine wa_iconst (pc' := 2) dL_setChord_1 rfl ?_
  refine wa_aload_n (pc' := 3) dL_setChord_2 rfl rfl rfl ?_
  refine wa_iload_n (pc' := 4) dL_setChord_3 rfl rfl rfl ?_
  refine wa_callX (pc' := 7) (k_X9_setChord c0.1 c0.2.1 c0.2.2.1 c0.2.2.2.1 c0.2.2.2.2.1 c0.2.2.2.2.2.1 c0.2.2.2.2.2.2.1 c0.2.2.2.2.2.2.2.1 c0.2.2.2.2.2.2.2.2.1 c0.2.2.2.2.2.2.2.2.2.1 c0.2.2.2.2.2.2.2.2.2.2.1 c0.2.2.2.2.2.2.2.2.2.2.2 h i hi) ok_X9_setChord lm_L_47 dL_setChord_4 rfl (List.range 53) (hsub_pre (w1 := wCS c0) (wCS_ok c0)) List.nodup_range rfl rfl rfl rfl rfl (by decide) (by decide) (by decide) (by decide) (fun o w' h9 => by rw [h9.2]; rfl) (fun E w1' h9 => ?_) (fun v w1' h9 => ?_)
  · obtain ⟨h1, rfl⟩ := h9
    have hz : zins (zre (List.range 53)) (List.range 53) (wCS (cs_setChord i c0).2) (wCS c0 ++ [zA 2 1 fo]) = wCS (cs_setChord i c0).2 ++ [zA 2 1 fo] := zins_pre (w1 := wCS c0) rfl (wCS_ok _)
    rcases sh_setChord i c0 with ⟨a, ha⟩ | ⟨E1, hE, hE1⟩
    · exact nomatch h1.trans ha
    · have h3 : E = E1 := Sum.inr.inj (h1.trans hE1)
      subst h3
      simp only [List.mem_cons, List.not_mem_nil, or_false] at hE
      subst hE
      exact ⟨1, hn_setChord_eIO, fo, hz, Or.inr ⟨_, hE1, rfl⟩⟩
  obtain ⟨h1, rfl⟩ := h9
  have hz : zins (zre (List.range 53)) (List.range 53) (wCS (cs_setChord i c0).2) (wCS c0 ++ [zA 2 1 fo]) = wCS (cs_setChord i c0).2 ++ [zA 2 1 fo] := zins_pre (w1 := wCS c0) rfl (wCS_ok _)
  rcases sh_setChord i c0 with ⟨a, ha⟩ | ⟨E1, hE, hE1⟩
  rotate_left
  · exact nomatch h1.trans hE1
  have h3 : v = some (zI a) := Sum.inl.inj (h1.trans ha)
  subst h3
  show Wa _ _ _ _ _ _ _ _ [zI a, zI 0, zR 53] _ _ _
  rw [hz]
  refine wa_i2lG (pc' := 8) dL_setChord_7 rfl ?_
  refine wa_lastore (pc' := 9) (k := 53) (n := 1) (w' := wCS (cs_setChord i c0).2 ++ [zA 2 1 (zup fo 0 (Int32.ofInt a).toInt)]) dL_setChord_8 rfl rfl (by decide) (by decide) (by decide) rfl ?_
  refine wa_goto (pc' := 15) dL_setChord_9 (by decide) ?_
  refine wa_iconst (pc' := 16) dL_setChord_15 rfl ?_
  exact wa_iret dL_setChord_16 rfl (Nat.le_of_ble_eq_true rfl) (Nat.le_of_ble_eq_true rfl) ⟨_, rfl, Or.inl ⟨a, ha, rfl, by rfl⟩⟩
theorem sh_addChord (l : Int) (c : Int) (c0 : zCS) : ShI [eIO, eIS] (cs_addChord l c c0) := by
  obtain ⟨t, nm, s, D, H, ol, ct, k, y, si, fl, wi⟩ := c0
  unfold cs_addChord
  repeat' (first | exact sh_i | exact sh_e (by simp) | apply sh_ite)
theorem hn_addChord_eIO : zHan q_L_addChord 5 eIO 1 := ⟨[], ⟨0, 10, 13, 23⟩, [⟨0, 10, 17, 15⟩], 4, rfl, (fun z hz => nomatch hz), ⟨rfl, by decide⟩, ⟨lc_eIO, la_eIO⟩, by decide, Or.inr ⟨dL_addChord_13, dL_addChord_15, dL_addChord_16⟩, rfl⟩
theorem hn_addChord_eIS : zHan q_L_addChord 5 eIS 2 := ⟨[⟨0, 10, 13, 23⟩], ⟨0, 10, 17, 15⟩, [], 4, rfl, (fun z hz => by rw [List.mem_singleton] at hz; subst hz; exact ⟨by decide, _, lc_eIO, rfl, by simp⟩), ⟨rfl, by decide⟩, ⟨lc_eIS, la_eIS⟩, by decide, Or.inr ⟨dL_addChord_17, dL_addChord_19, dL_addChord_20⟩, rfl⟩
set_option maxRecDepth 10000 in
theorem k_L_addChord (c0 : zCS) (h : okC c0) (fo : Int → Int) (l : Int) (hl : zin l) (c : Int) (hc : zin c) : zMet q_L_addChord 9 3 18 [zR 0, zI l, zI c, zR 53] (wCS c0 ++ [zA 2 1 fo]) (LH (cd2 eIO) (cs_addChord l c c0)) := by
  refine z_introH (ls := [(0, zR 0), (1, zI l), (2, zI c), (3, zR 53)]) (by decide +kernel) rfl (fun _ _ => rfl) (fun _ _ => Nat.le_of_ble_eq_true rfl) ?_
  refine wa_aload_n (pc' := 1) dL_addChord_0 rfl rfl rfl ?_
  refine wa_iconst (pc' := 2) dL_addChord_1 rfl ?_
  refine wa_aload_n (pc' := 3) dL_addChord_2 rfl rfl rfl ?_
  refine wa_iload_n (pc' := 4) dL_addChord_3 rfl rfl rfl ?_
  refine wa_iload_n (pc' := 5) dL_addChord_4 rfl rfl rfl ?_
  refine wa_callX (pc' := 8) (k_X9_addChord c0.1 c0.2.1 c0.2.2.1 c0.2.2.2.1 c0.2.2.2.2.1 c0.2.2.2.2.2.1 c0.2.2.2.2.2.2.1 c0.2.2.2.2.2.2.2.1 c0.2.2.2.2.2.2.2.2.1 c0.2.2.2.2.2.2.2.2.2.1 c0.2.2.2.2.2.2.2.2.2.2.1 c0.2.2.2.2.2.2.2.2.2.2.2 h l hl c hc) ok_X9_addChord lm_L_50 dL_addChord_5 rfl (List.range 53) (hsub_pre (w1 := wCS c0) (wCS_ok c0)) List.nodup_range rfl rfl rfl rfl rfl (by decide) (by decide) (by decide) (by decide) (fun o w' h9 => by rw [h9.2]; rfl) (fun E w1' h9 => ?_) (fun v w1' h9 => ?_)
  · obtain ⟨h1, rfl⟩ := h9
    have hz : zins (zre (List.range 53)) (List.range 53) (wCS (cs_addChord l c c0).2) (wCS c0 ++ [zA 2 1 fo]) = wCS (cs_addChord l c c0).2 ++ [zA 2 1 fo] := zins_pre (w1 := wCS c0) rfl (wCS_ok _)
    rcases sh_addChord l c c0 with ⟨a, ha⟩ | ⟨E1, hE, hE1⟩
    · exact nomatch h1.trans ha
    · have h3 : E = E1 := Sum.inr.inj (h1.trans hE1)
      subst h3
      simp only [List.mem_cons, List.not_mem_nil, or_false] at hE
      rcases hE with rfl | rfl
      · exact ⟨1, hn_addChord_eIO, fo, hz, Or.inr ⟨_, hE1, by decide +kernel⟩⟩
      · exact ⟨2, hn_addChord_eIS, fo, hz, Or.inr ⟨_, hE1, by decide +kernel⟩⟩
  obtain ⟨h1, rfl⟩ := h9
  have hz : zins (zre (List.range 53)) (List.range 53) (wCS (cs_addChord l c c0).2) (wCS c0 ++ [zA 2 1 fo]) = wCS (cs_addChord l c c0).2 ++ [zA 2 1 fo] := zins_pre (w1 := wCS c0) rfl (wCS_ok _)
  rcases sh_addChord l c c0 with ⟨a, ha⟩ | ⟨E1, hE, hE1⟩
  rotate_left
  · exact nomatch h1.trans hE1
  have h3 : v = some (zI a) := Sum.inl.inj (h1.trans ha)
  subst h3
  show Wa _ _ _ _ _ _ _ _ [zI a, zI 0, zR 53] _ _ _
  rw [hz]
  refine wa_i2lG (pc' := 9) dL_addChord_8 rfl ?_
  refine wa_lastore (pc' := 10) (k := 53) (n := 1) (w' := wCS (cs_addChord l c c0).2 ++ [zA 2 1 (zup fo 0 (Int32.ofInt a).toInt)]) dL_addChord_9 rfl rfl (by decide) (by decide) (by decide) rfl ?_
  refine wa_goto (pc' := 21) dL_addChord_10 (by decide) ?_
  refine wa_iconst (pc' := 22) dL_addChord_21 rfl ?_
  exact wa_iret dL_addChord_22 rfl (Nat.le_of_ble_eq_true rfl) (Nat.le_of_ble_eq_true rfl) ⟨_, rfl, Or.inl ⟨a, ha, rfl, by rfl⟩⟩
theorem sh_removeChord (i : Int) (c0 : zCS) : ShI [eIO] (cs_removeChord i c0) := by
  obtain ⟨t, nm, s, D, H, ol, ct, k, y, si, fl, wi⟩ := c0
  unfold cs_removeChord
  repeat' (first | exact sh_i | exact sh_e (by simp) | apply sh_ite)
theorem hn_removeChord_eIO : zHan q_L_removeChord 4 eIO 1 := ⟨[], ⟨0, 9, 12, 23⟩, [], 3, rfl, (fun z hz => nomatch hz), ⟨rfl, by decide⟩, ⟨lc_eIO, la_eIO⟩, by decide, Or.inl ⟨3, rfl, dL_removeChord_12, dL_removeChord_13, dL_removeChord_14⟩, rfl⟩
set_option maxRecDepth 10000 in
theorem k_L_removeChord (c0 : zCS) (h : okC c0) (fo : Int → Int) (i : Int) (hi : zin i) : zMet q_L_removeChord 9 1 6 [zR 0, zI i, zR 53] (wCS c0 ++ [zA 2 1 fo]) (LH cd1 (cs_removeChord i c0)) := by
  refine z_introH (ls := [(0, zR 0), (1, zI i), (2, zR 53)]) (by decide +kernel) rfl (fun _ _ => rfl) (fun _ _ => Nat.le_of_ble_eq_true rfl) ?_
  refine wa_aload_n (pc' := 1) dL_removeChord_0 rfl rfl rfl ?_
  refine wa_iconst (pc' := 2) dL_removeChord_1 rfl ?_
  refine wa_aload_n (pc' := 3) dL_removeChord_2 rfl rfl rfl ?_
  refine wa_iload_n (pc' := 4) dL_removeChord_3 rfl rfl rfl ?_
  refine wa_callX (pc' := 7) (k_X9_removeChord c0.1 c0.2.1 c0.2.2.1 c0.2.2.2.1 c0.2.2.2.2.1 c0.2.2.2.2.2.1 c0.2.2.2.2.2.2.1 c0.2.2.2.2.2.2.2.1 c0.2.2.2.2.2.2.2.2.1 c0.2.2.2.2.2.2.2.2.2.1 c0.2.2.2.2.2.2.2.2.2.2.1 c0.2.2.2.2.2.2.2.2.2.2.2 h i hi) ok_X9_removeChord lm_L_53 dL_removeChord_4 rfl (List.range 53) (hsub_pre (w1 := wCS c0) (wCS_ok c0)) List.nodup_range rfl rfl rfl rfl rfl (by decide) (by decide) (by decide) (by decide) (fun o w' h9 => by rw [h9.2]; rfl) (fun E w1' h9 => ?_) (fun v w1' h9 => ?_)
  · obtain ⟨h1, rfl⟩ := h9
    have hz : zins (zre (List.range 53)) (List.range 53) (wCS (cs_removeChord i c0).2) (wCS c0 ++ [zA 2 1 fo]) = wCS (cs_removeChord i c0).2 ++ [zA 2 1 fo] := zins_pre (w1 := wCS c0) rfl (wCS_ok _)
    rcases sh_removeChord i c0 with ⟨a, ha⟩ | ⟨E1, hE, hE1⟩
    · exact nomatch h1.trans ha
    · have h3 : E = E1 := Sum.inr.inj (h1.trans hE1)
      subst h3
      simp only [List.mem_cons, List.not_mem_nil, or_false] at hE
      subst hE
      exact ⟨1, hn_removeChord_eIO, fo, hz, Or.inr ⟨_, hE1, rfl⟩⟩
  obtain ⟨h1, rfl⟩ := h9
  have hz : zins (zre (List.range 53)) (List.range 53) (wCS (cs_removeChord i c0).2) (wCS c0 ++ [zA 2 1 fo]) = wCS (cs_removeChord i c0).2 ++ [zA 2 1 fo] := zins_pre (w1 := wCS c0) rfl (wCS_ok _)
  rcases sh_removeChord i c0 with ⟨a, ha⟩ | ⟨E1, hE, hE1⟩
  rotate_left
  · exact nomatch h1.trans hE1
  have h3 : v = some (zI a) := Sum.inl.inj (h1.trans ha)
  subst h3
  show Wa _ _ _ _ _ _ _ _ [zI a, zI 0, zR 53] _ _ _
  rw [hz]
  refine wa_i2lG (pc' := 8) dL_removeChord_7 rfl ?_
  refine wa_lastore (pc' := 9) (k := 53) (n := 1) (w' := wCS (cs_removeChord i c0).2 ++ [zA 2 1 (zup fo 0 (Int32.ofInt a).toInt)]) dL_removeChord_8 rfl rfl (by decide) (by decide) (by decide) rfl ?_
  refine wa_goto (pc' := 15) dL_removeChord_9 (by decide) ?_
  refine wa_iconst (pc' := 16) dL_removeChord_15 rfl ?_
  exact wa_iret dL_removeChord_16 rfl (Nat.le_of_ble_eq_true rfl) (Nat.le_of_ble_eq_true rfl) ⟨_, rfl, Or.inl ⟨a, ha, rfl, by rfl⟩⟩
theorem sh_moveChord (i : Int) (c : Int) (c0 : zCS) : ShI [eIO] (cs_moveChord i c c0) := by
  obtain ⟨t, nm, s, D, H, ol, ct, k, y, si, fl, wi⟩ := c0
  unfold cs_moveChord
  repeat' (first | exact sh_i | exact sh_e (by simp) | apply sh_ite)
theorem hn_moveChord_eIO : zHan q_L_moveChord 5 eIO 1 := ⟨[], ⟨0, 10, 13, 23⟩, [], 4, rfl, (fun z hz => nomatch hz), ⟨rfl, by decide⟩, ⟨lc_eIO, la_eIO⟩, by decide, Or.inr ⟨dL_moveChord_13, dL_moveChord_15, dL_moveChord_16⟩, rfl⟩
set_option maxRecDepth 10000 in
theorem k_L_moveChord (c0 : zCS) (h : okC c0) (fo : Int → Int) (i : Int) (hi : zin i) (c : Int) (hc : zin c) : zMet q_L_moveChord 9 2 12 [zR 0, zI i, zI c, zR 53] (wCS c0 ++ [zA 2 1 fo]) (LH cd1 (cs_moveChord i c c0)) := by
  refine z_introH (ls := [(0, zR 0), (1, zI i), (2, zI c), (3, zR 53)]) (by decide +kernel) rfl (fun _ _ => rfl) (fun _ _ => Nat.le_of_ble_eq_true rfl) ?_
  refine wa_aload_n (pc' := 1) dL_moveChord_0 rfl rfl rfl ?_
  refine wa_iconst (pc' := 2) dL_moveChord_1 rfl ?_
  refine wa_aload_n (pc' := 3) dL_moveChord_2 rfl rfl rfl ?_
  refine wa_iload_n (pc' := 4) dL_moveChord_3 rfl rfl rfl ?_
  refine wa_iload_n (pc' := 5) dL_moveChord_4 rfl rfl rfl ?_
  refine wa_callX (pc' := 8) (k_X9_moveChord c0.1 c0.2.1 c0.2.2.1 c0.2.2.2.1 c0.2.2.2.2.1 c0.2.2.2.2.2.1 c0.2.2.2.2.2.2.1 c0.2.2.2.2.2.2.2.1 c0.2.2.2.2.2.2.2.2.1 c0.2.2.2.2.2.2.2.2.2.1 c0.2.2.2.2.2.2.2.2.2.2.1 c0.2.2.2.2.2.2.2.2.2.2.2 h i hi c hc) ok_X9_moveChord lm_L_56 dL_moveChord_5 rfl (List.range 53) (hsub_pre (w1 := wCS c0) (wCS_ok c0)) List.nodup_range rfl rfl rfl rfl rfl (by decide) (by decide) (by decide) (by decide) (fun o w' h9 => by rw [h9.2]; rfl) (fun E w1' h9 => ?_) (fun v w1' h9 => ?_)
  · obtain ⟨h1, rfl⟩ := h9
    have hz : zins (zre (List.range 53)) (List.range 53) (wCS (cs_moveChord i c c0).2) (wCS c0 ++ [zA 2 1 fo]) = wCS (cs_moveChord i c c0).2 ++ [zA 2 1 fo] := zins_pre (w1 := wCS c0) rfl (wCS_ok _)
    rcases sh_moveChord i c c0 with ⟨a, ha⟩ | ⟨E1, hE, hE1⟩
    · exact nomatch h1.trans ha
    · have h3 : E = E1 := Sum.inr.inj (h1.trans hE1)
      subst h3
      simp only [List.mem_cons, List.not_mem_nil, or_false] at hE
      subst hE
      exact ⟨1, hn_moveChord_eIO, fo, hz, Or.inr ⟨_, hE1, rfl⟩⟩
  obtain ⟨h1, rfl⟩ := h9
  have hz : zins (zre (List.range 53)) (List.range 53) (wCS (cs_moveChord i c c0).2) (wCS c0 ++ [zA 2 1 fo]) = wCS (cs_moveChord i c c0).2 ++ [zA 2 1 fo] := zins_pre (w1 := wCS c0) rfl (wCS_ok _)
  rcases sh_moveChord i c c0 with ⟨a, ha⟩ | ⟨E1, hE, hE1⟩
  rotate_left
  · exact nomatch h1.trans hE1
  have h3 : v = some (zI a) := Sum.inl.inj (h1.trans ha)
  subst h3
  show Wa _ _ _ _ _ _ _ _ [zI a, zI 0, zR 53] _ _ _
  rw [hz]
  refine wa_i2lG (pc' := 9) dL_moveChord_8 rfl ?_
  refine wa_lastore (pc' := 10) (k := 53) (n := 1) (w' := wCS (cs_moveChord i c c0).2 ++ [zA 2 1 (zup fo 0 (Int32.ofInt a).toInt)]) dL_moveChord_9 rfl rfl (by decide) (by decide) (by decide) rfl ?_
  refine wa_goto (pc' := 17) dL_moveChord_10 (by decide) ?_
  refine wa_iconst (pc' := 18) dL_moveChord_17 rfl ?_
  exact wa_iret dL_moveChord_18 rfl (Nat.le_of_ble_eq_true rfl) (Nat.le_of_ble_eq_true rfl) ⟨_, rfl, Or.inl ⟨a, ha, rfl, by rfl⟩⟩
theorem sh_commonTones (i : Int) (c0 : zCS) : ShI [eIO] (cs_commonTones i c0) := by
  obtain ⟨t, nm, s, D, H, ol, ct, k, y, si, fl, wi⟩ := c0
  unfold cs_commonTones
  repeat' (first | exact sh_i | exact sh_e (by simp) | apply sh_ite)
theorem hn_commonTones_eIO : zHan q_L_commonTones 4 eIO 1 := ⟨[], ⟨0, 9, 12, 23⟩, [], 3, rfl, (fun z hz => nomatch hz), ⟨rfl, by decide⟩, ⟨lc_eIO, la_eIO⟩, by decide, Or.inl ⟨3, rfl, dL_commonTones_12, dL_commonTones_13, dL_commonTones_14⟩, rfl⟩
set_option maxRecDepth 10000 in
theorem k_L_commonTones (c0 : zCS) (h : okC c0) (fo : Int → Int) (i : Int) (hi : zin i) : zMet q_L_commonTones 8 1 6 [zR 0, zI i, zR 53] (wCS c0 ++ [zA 2 1 fo]) (LH cd1 (cs_commonTones i c0)) := by
  refine z_introH (ls := [(0, zR 0), (1, zI i), (2, zR 53)]) (by decide +kernel) rfl (fun _ _ => rfl) (fun _ _ => Nat.le_of_ble_eq_true rfl) ?_
  refine wa_aload_n (pc' := 1) dL_commonTones_0 rfl rfl rfl ?_
  refine wa_iconst (pc' := 2) dL_commonTones_1 rfl ?_
  refine wa_aload_n (pc' := 3) dL_commonTones_2 rfl rfl rfl ?_
  refine wa_iload_n (pc' := 4) dL_commonTones_3 rfl rfl rfl ?_
  refine wa_callX (pc' := 7) (k_X9_commonTones c0.1 c0.2.1 c0.2.2.1 c0.2.2.2.1 c0.2.2.2.2.1 c0.2.2.2.2.2.1 c0.2.2.2.2.2.2.1 c0.2.2.2.2.2.2.2.1 c0.2.2.2.2.2.2.2.2.1 c0.2.2.2.2.2.2.2.2.2.1 c0.2.2.2.2.2.2.2.2.2.2.1 c0.2.2.2.2.2.2.2.2.2.2.2 h i hi) ok_X9_commonTones lm_L_59 dL_commonTones_4 rfl (List.range 53) (hsub_pre (w1 := wCS c0) (wCS_ok c0)) List.nodup_range rfl rfl rfl rfl rfl (by decide) (by decide) (by decide) (by decide) (fun o w' h9 => by rw [h9.2]; rfl) (fun E w1' h9 => ?_) (fun v w1' h9 => ?_)
  · obtain ⟨h1, rfl⟩ := h9
    have hz : zins (zre (List.range 53)) (List.range 53) (wCS (cs_commonTones i c0).2) (wCS c0 ++ [zA 2 1 fo]) = wCS (cs_commonTones i c0).2 ++ [zA 2 1 fo] := zins_pre (w1 := wCS c0) rfl (wCS_ok _)
    rcases sh_commonTones i c0 with ⟨a, ha⟩ | ⟨E1, hE, hE1⟩
    · exact nomatch h1.trans ha
    · have h3 : E = E1 := Sum.inr.inj (h1.trans hE1)
      subst h3
      simp only [List.mem_cons, List.not_mem_nil, or_false] at hE
      subst hE
      exact ⟨1, hn_commonTones_eIO, fo, hz, Or.inr ⟨_, hE1, rfl⟩⟩
  obtain ⟨h1, rfl⟩ := h9
  have hz : zins (zre (List.range 53)) (List.range 53) (wCS (cs_commonTones i c0).2) (wCS c0 ++ [zA 2 1 fo]) = wCS (cs_commonTones i c0).2 ++ [zA 2 1 fo] := zins_pre (w1 := wCS c0) rfl (wCS_ok _)
  rcases sh_commonTones i c0 with ⟨a, ha⟩ | ⟨E1, hE, hE1⟩
  rotate_left
  · exact nomatch h1.trans hE1
  have h3 : v = some (zI a) := Sum.inl.inj (h1.trans ha)
  subst h3
  show Wa _ _ _ _ _ _ _ _ [zI a, zI 0, zR 53] _ _ _
  rw [hz]
  refine wa_i2lG (pc' := 8) dL_commonTones_7 rfl ?_
  refine wa_lastore (pc' := 9) (k := 53) (n := 1) (w' := wCS (cs_commonTones i c0).2 ++ [zA 2 1 (zup fo 0 (Int32.ofInt a).toInt)]) dL_commonTones_8 rfl rfl (by decide) (by decide) (by decide) rfl ?_
  refine wa_goto (pc' := 15) dL_commonTones_9 (by decide) ?_
  refine wa_iconst (pc' := 16) dL_commonTones_15 rfl ?_
  exact wa_iret dL_commonTones_16 rfl (Nat.le_of_ble_eq_true rfl) (Nat.le_of_ble_eq_true rfl) ⟨_, rfl, Or.inl ⟨a, ha, rfl, by rfl⟩⟩
theorem sh_degree (i : Int) (c0 : zCS) : ShI [eIO] (cs_degree i c0) := by
  obtain ⟨t, nm, s, D, H, ol, ct, k, y, si, fl, wi⟩ := c0
  unfold cs_degree
  repeat' (first | exact sh_i | exact sh_e (by simp) | apply sh_ite)
theorem hn_degree_eIO : zHan q_L_degree 4 eIO 1 := ⟨[], ⟨0, 9, 12, 23⟩, [], 3, rfl, (fun z hz => nomatch hz), ⟨rfl, by decide⟩, ⟨lc_eIO, la_eIO⟩, by decide, Or.inl ⟨3, rfl, dL_degree_12, dL_degree_13, dL_degree_14⟩, rfl⟩
set_option maxRecDepth 10000 in
theorem k_L_degree (c0 : zCS) (h : okC c0) (fo : Int → Int) (i : Int) (hi : zin i) : zMet q_L_degree 9 1 6 [zR 0, zI i, zR 53] (wCS c0 ++ [zA 2 1 fo]) (LH cd1 (cs_degree i c0)) := by
  refine z_introH (ls := [(0, zR 0), (1, zI i), (2, zR 53)]) (by decide +kernel) rfl (fun _ _ => rfl) (fun _ _ => Nat.le_of_ble_eq_true rfl) ?_
  refine wa_aload_n (pc' := 1) dL_degree_0 rfl rfl rfl ?_
  refine wa_iconst (pc' := 2) dL_degree_1 rfl ?_
  refine wa_aload_n (pc' := 3) dL_degree_2 rfl rfl rfl ?_
  refine wa_iload_n (pc' := 4) dL_degree_3 rfl rfl rfl ?_
  refine wa_callX (pc' := 7) (k_X9_degree c0.1 c0.2.1 c0.2.2.1 c0.2.2.2.1 c0.2.2.2.2.1 c0.2.2.2.2.2.1 c0.2.2.2.2.2.2.1 c0.2.2.2.2.2.2.2.1 c0.2.2.2.2.2.2.2.2.1 c0.2.2.2.2.2.2.2.2.2.1 c0.2.2.2.2.2.2.2.2.2.2.1 c0.2.2.2.2.2.2.2.2.2.2.2 h i hi) ok_X9_degree lm_L_62 dL_degree_4 rfl (List.range 53) (hsub_pre (w1 := wCS c0) (wCS_ok c0)) List.nodup_range rfl rfl rfl rfl rfl (by decide) (by decide) (by decide) (by decide) (fun o w' h9 => by rw [h9.2]; rfl) (fun E w1' h9 => ?_) (fun v w1' h9 => ?_)
  · obtain ⟨h1, rfl⟩ := h9
    have hz : zins (zre (List.range 53)) (List.range 53) (wCS (cs_degree i c0).2) (wCS c0 ++ [zA 2 1 fo]) = wCS (cs_degree i c0).2 ++ [zA 2 1 fo] := zins_pre (w1 := wCS c0) rfl (wCS_ok _)
    rcases sh_degree i c0 with ⟨a, ha⟩ | ⟨E1, hE, hE1⟩
    · exact nomatch h1.trans ha
    · have h3 : E = E1 := Sum.inr.inj (h1.trans hE1)
      subst h3
      simp only [List.mem_cons, List.not_mem_nil, or_false] at hE
      subst hE
      exact ⟨1, hn_degree_eIO, fo, hz, Or.inr ⟨_, hE1, rfl⟩⟩
  obtain ⟨h1, rfl⟩ := h9
  have hz : zins (zre (List.range 53)) (List.range 53) (wCS (cs_degree i c0).2) (wCS c0 ++ [zA 2 1 fo]) = wCS (cs_degree i c0).2 ++ [zA 2 1 fo] := zins_pre (w1 := wCS c0) rfl (wCS_ok _)
  rcases sh_degree i c0 with ⟨a, ha⟩ | ⟨E1, hE, hE1⟩
  rotate_left
  · exact nomatch h1.trans hE1
  have h3 : v = some (zI a) := Sum.inl.inj (h1.trans ha)
  subst h3
  show Wa _ _ _ _ _ _ _ _ [zI a, zI 0, zR 53] _ _ _
  rw [hz]
  refine wa_i2lG (pc' := 8) dL_degree_7 rfl ?_
  refine wa_lastore (pc' := 9) (k := 53) (n := 1) (w' := wCS (cs_degree i c0).2 ++ [zA 2 1 (zup fo 0 (Int32.ofInt a).toInt)]) dL_degree_8 rfl rfl (by decide) (by decide) (by decide) rfl ?_
  refine wa_goto (pc' := 15) dL_degree_9 (by decide) ?_
  refine wa_iconst (pc' := 16) dL_degree_15 rfl ?_
  exact wa_iret dL_degree_16 rfl (Nat.le_of_ble_eq_true rfl) (Nat.le_of_ble_eq_true rfl) ⟨_, rfl, Or.inl ⟨a, ha, rfl, by rfl⟩⟩
theorem sh_setKey (p : Int) (b : Int) (c0 : zCS) : ShI [eIA] (cs_setKey p b c0) := by
  obtain ⟨t, nm, s, D, H, ol, ct, k, y, si, fl, wi⟩ := c0
  unfold cs_setKey
  repeat' (first | exact sh_i | exact sh_e (by simp) | apply sh_ite)
theorem hn_setKey_eIA : zHan q_L_setKey 5 eIA 1 := ⟨[], ⟨0, 10, 13, 13⟩, [], 4, rfl, (fun z hz => nomatch hz), ⟨rfl, by decide⟩, ⟨lc_eIA, la_eIA⟩, by decide, Or.inr ⟨dL_setKey_13, dL_setKey_15, dL_setKey_16⟩, rfl⟩
set_option maxRecDepth 10000 in
theorem k_L_setKey (c0 : zCS) (h : okC c0) (fo : Int → Int) (p : Int) (hp : zin p) (b : Int) (hb : b = 0 ∨ b = 1) : zMet q_L_setKey 9 1 6 [zR 0, zI p, zI b, zR 53] (wCS c0 ++ [zA 2 1 fo]) (LH cd1 (cs_setKey p b c0)) := by
  refine z_introH (ls := [(0, zR 0), (1, zI p), (2, zI b), (3, zR 53)]) (by decide +kernel) rfl (fun _ _ => rfl) (fun _ _ => Nat.le_of_ble_eq_true rfl) ?_
  refine wa_aload_n (pc' := 1) dL_setKey_0 rfl rfl rfl ?_
  refine wa_iconst (pc' := 2) dL_setKey_1 rfl ?_
  refine wa_aload_n (pc' := 3) dL_setKey_2 rfl rfl rfl ?_
  refine wa_iload_n (pc' := 4) dL_setKey_3 rfl rfl rfl ?_
  refine wa_iload_n (pc' := 5) dL_setKey_4 rfl rfl rfl ?_
  refine wa_callX (pc' := 8) (k_X9_setKey c0.1 c0.2.1 c0.2.2.1 c0.2.2.2.1 c0.2.2.2.2.1 c0.2.2.2.2.2.1 c0.2.2.2.2.2.2.1 c0.2.2.2.2.2.2.2.1 c0.2.2.2.2.2.2.2.2.1 c0.2.2.2.2.2.2.2.2.2.1 c0.2.2.2.2.2.2.2.2.2.2.1 c0.2.2.2.2.2.2.2.2.2.2.2 h p hp b hb) ok_X9_setKey lm_L_65 dL_setKey_5 rfl (List.range 53) (hsub_pre (w1 := wCS c0) (wCS_ok c0)) List.nodup_range rfl rfl rfl rfl rfl (by decide) (by decide) (by decide) (by decide) (fun o w' h9 => by rw [h9.2]; rfl) (fun E w1' h9 => ?_) (fun v w1' h9 => ?_)
  · obtain ⟨h1, rfl⟩ := h9
    have hz : zins (zre (List.range 53)) (List.range 53) (wCS (cs_setKey p b c0).2) (wCS c0 ++ [zA 2 1 fo]) = wCS (cs_setKey p b c0).2 ++ [zA 2 1 fo] := zins_pre (w1 := wCS c0) rfl (wCS_ok _)
    rcases sh_setKey p b c0 with ⟨a, ha⟩ | ⟨E1, hE, hE1⟩
    · exact nomatch h1.trans ha
    · have h3 : E = E1 := Sum.inr.inj (h1.trans hE1)
      subst h3
      simp only [List.mem_cons, List.not_mem_nil, or_false] at hE
      subst hE
      exact ⟨1, hn_setKey_eIA, fo, hz, Or.inr ⟨_, hE1, rfl⟩⟩
  obtain ⟨h1, rfl⟩ := h9
  have hz : zins (zre (List.range 53)) (List.range 53) (wCS (cs_setKey p b c0).2) (wCS c0 ++ [zA 2 1 fo]) = wCS (cs_setKey p b c0).2 ++ [zA 2 1 fo] := zins_pre (w1 := wCS c0) rfl (wCS_ok _)
  rcases sh_setKey p b c0 with ⟨a, ha⟩ | ⟨E1, hE, hE1⟩
  rotate_left
  · exact nomatch h1.trans hE1
  have h3 : v = some (zI a) := Sum.inl.inj (h1.trans ha)
  subst h3
  show Wa _ _ _ _ _ _ _ _ [zI a, zI 0, zR 53] _ _ _
  rw [hz]
  refine wa_i2lG (pc' := 9) dL_setKey_8 rfl ?_
  refine wa_lastore (pc' := 10) (k := 53) (n := 1) (w' := wCS (cs_setKey p b c0).2 ++ [zA 2 1 (zup fo 0 (Int32.ofInt a).toInt)]) dL_setKey_9 rfl rfl (by decide) (by decide) (by decide) rfl ?_
  refine wa_goto (pc' := 17) dL_setKey_10 (by decide) ?_
  refine wa_iconst (pc' := 18) dL_setKey_17 rfl ?_
  exact wa_iret dL_setKey_18 rfl (Nat.le_of_ble_eq_true rfl) (Nat.le_of_ble_eq_true rfl) ⟨_, rfl, Or.inl ⟨a, ha, rfl, by rfl⟩⟩
theorem sh_score (p : Int) (b : Int) (c0 : zCS) : ShI [eIA] (cs_score p b c0) := by
  obtain ⟨t, nm, s, D, H, ol, ct, k, y, si, fl, wi⟩ := c0
  unfold cs_score
  repeat' (first | exact sh_i | exact sh_e (by simp) | apply sh_ite)
theorem hn_score_eIA : zHan q_L_score 5 eIA 1 := ⟨[], ⟨0, 10, 13, 13⟩, [], 4, rfl, (fun z hz => nomatch hz), ⟨rfl, by decide⟩, ⟨lc_eIA, la_eIA⟩, by decide, Or.inr ⟨dL_score_13, dL_score_15, dL_score_16⟩, rfl⟩
set_option maxRecDepth 10000 in
theorem k_L_score (c0 : zCS) (h : okC c0) (fo : Int → Int) (p : Int) (hp : zin p) (b : Int) (hb : b = 0 ∨ b = 1) : zMet q_L_score 9 1 6 [zR 0, zI p, zI b, zR 53] (wCS c0 ++ [zA 2 1 fo]) (LH cd1 (cs_score p b c0)) := by
  refine z_introH (ls := [(0, zR 0), (1, zI p), (2, zI b), (3, zR 53)]) (by decide +kernel) rfl (fun _ _ => rfl) (fun _ _ => Nat.le_of_ble_eq_true rfl) ?_
  refine wa_aload_n (pc' := 1) dL_score_0 rfl rfl rfl ?_
  refine wa_iconst (pc' := 2) dL_score_1 rfl ?_
  refine wa_aload_n (pc' := 3) dL_score_2 rfl rfl rfl ?_
  refine wa_iload_n (pc' := 4) dL_score_3 rfl rfl rfl ?_
  refine wa_iload_n (pc' := 5) dL_score_4 rfl rfl rfl ?_
  refine wa_callX (pc' := 8) (k_X9_score c0.1 c0.2.1 c0.2.2.1 c0.2.2.2.1 c0.2.2.2.2.1 c0.2.2.2.2.2.1 c0.2.2.2.2.2.2.1 c0.2.2.2.2.2.2.2.1 c0.2.2.2.2.2.2.2.2.1 c0.2.2.2.2.2.2.2.2.2.1 c0.2.2.2.2.2.2.2.2.2.2.1 c0.2.2.2.2.2.2.2.2.2.2.2 h p hp b hb) ok_X9_score lm_L_69 dL_score_5 rfl (List.range 53) (hsub_pre (w1 := wCS c0) (wCS_ok c0)) List.nodup_range rfl rfl rfl rfl rfl (by decide) (by decide) (by decide) (by decide) (fun o w' h9 => by rw [h9.2]; rfl) (fun E w1' h9 => ?_) (fun v w1' h9 => ?_)
  · obtain ⟨h1, rfl⟩ := h9
    have hz : zins (zre (List.range 53)) (List.range 53) (wCS (cs_score p b c0).2) (wCS c0 ++ [zA 2 1 fo]) = wCS (cs_score p b c0).2 ++ [zA 2 1 fo] := zins_pre (w1 := wCS c0) rfl (wCS_ok _)
    rcases sh_score p b c0 with ⟨a, ha⟩ | ⟨E1, hE, hE1⟩
    · exact nomatch h1.trans ha
    · have h3 : E = E1 := Sum.inr.inj (h1.trans hE1)
      subst h3
      simp only [List.mem_cons, List.not_mem_nil, or_false] at hE
      subst hE
      exact ⟨1, hn_score_eIA, fo, hz, Or.inr ⟨_, hE1, rfl⟩⟩
  obtain ⟨h1, rfl⟩ := h9
  have hz : zins (zre (List.range 53)) (List.range 53) (wCS (cs_score p b c0).2) (wCS c0 ++ [zA 2 1 fo]) = wCS (cs_score p b c0).2 ++ [zA 2 1 fo] := zins_pre (w1 := wCS c0) rfl (wCS_ok _)
  rcases sh_score p b c0 with ⟨a, ha⟩ | ⟨E1, hE, hE1⟩
  rotate_left
  · exact nomatch h1.trans hE1
  have h3 : v = some (zI a) := Sum.inl.inj (h1.trans ha)
  subst h3
  show Wa _ _ _ _ _ _ _ _ [zI a, zI 0, zR 53] _ _ _
  rw [hz]
  refine wa_i2lG (pc' := 9) dL_score_8 rfl ?_
  refine wa_lastore (pc' := 10) (k := 53) (n := 1) (w' := wCS (cs_score p b c0).2 ++ [zA 2 1 (zup fo 0 (Int32.ofInt a).toInt)]) dL_score_9 rfl rfl (by decide) (by decide) (by decide) rfl ?_
  refine wa_goto (pc' := 17) dL_score_10 (by decide) ?_
  refine wa_iconst (pc' := 18) dL_score_17 rfl ?_
  exact wa_iret dL_score_18 rfl (Nat.le_of_ble_eq_true rfl) (Nat.le_of_ble_eq_true rfl) ⟨_, rfl, Or.inl ⟨a, ha, rfl, by rfl⟩⟩
theorem sh_transpose (se : Int) (c0 : zCS) : ShI [eIA] (cs_transpose se c0) := by
  obtain ⟨t, nm, s, D, H, ol, ct, k, y, si, fl, wi⟩ := c0
  unfold cs_transpose
  repeat' (first | exact sh_i | exact sh_e (by simp) | apply sh_ite)
theorem hn_transpose_eIA : zHan q_L_transpose 4 eIA 1 := ⟨[], ⟨0, 9, 12, 13⟩, [], 3, rfl, (fun z hz => nomatch hz), ⟨rfl, by decide⟩, ⟨lc_eIA, la_eIA⟩, by decide, Or.inl ⟨3, rfl, dL_transpose_12, dL_transpose_13, dL_transpose_14⟩, rfl⟩
set_option maxRecDepth 10000 in
theorem k_L_transpose (c0 : zCS) (h : okC c0) (fo : Int → Int) (se : Int) (hse : zin se) : zMet q_L_transpose 8 1 6 [zR 0, zI se, zR 53] (wCS c0 ++ [zA 2 1 fo]) (LH cd1 (cs_transpose se c0)) := by
  refine z_introH (ls := [(0, zR 0), (1, zI se), (2, zR 53)]) (by decide +kernel) rfl (fun _ _ => rfl) (fun _ _ => Nat.le_of_ble_eq_true rfl) ?_
  refine wa_aload_n (pc' := 1) dL_transpose_0 rfl rfl rfl ?_
  refine wa_iconst (pc' := 2) dL_transpose_1 rfl ?_
  refine wa_aload_n (pc' := 3) dL_transpose_2 rfl rfl rfl ?_
  refine wa_iload_n (pc' := 4) dL_transpose_3 rfl rfl rfl ?_
  refine wa_callX (pc' := 7) (k_X9_transpose c0.1 c0.2.1 c0.2.2.1 c0.2.2.2.1 c0.2.2.2.2.1 c0.2.2.2.2.2.1 c0.2.2.2.2.2.2.1 c0.2.2.2.2.2.2.2.1 c0.2.2.2.2.2.2.2.2.1 c0.2.2.2.2.2.2.2.2.2.1 c0.2.2.2.2.2.2.2.2.2.2.1 c0.2.2.2.2.2.2.2.2.2.2.2 h se hse) ok_X9_transpose lm_L_72 dL_transpose_4 rfl (List.range 53) (hsub_pre (w1 := wCS c0) (wCS_ok c0)) List.nodup_range rfl rfl rfl rfl rfl (by decide) (by decide) (by decide) (by decide) (fun o w' h9 => by rw [h9.2]; rfl) (fun E w1' h9 => ?_) (fun v w1' h9 => ?_)
  · obtain ⟨h1, rfl⟩ := h9
    have hz : zins (zre (List.range 53)) (List.range 53) (wCS (cs_transpose se c0).2) (wCS c0 ++ [zA 2 1 fo]) = wCS (cs_transpose se c0).2 ++ [zA 2 1 fo] := zins_pre (w1 := wCS c0) rfl (wCS_ok _)
    rcases sh_transpose se c0 with ⟨a, ha⟩ | ⟨E1, hE, hE1⟩
    · exact nomatch h1.trans ha
    · have h3 : E = E1 := Sum.inr.inj (h1.trans hE1)
      subst h3
      simp only [List.mem_cons, List.not_mem_nil, or_false] at hE
      subst hE
      exact ⟨1, hn_transpose_eIA, fo, hz, Or.inr ⟨_, hE1, rfl⟩⟩
  obtain ⟨h1, rfl⟩ := h9
  have hz : zins (zre (List.range 53)) (List.range 53) (wCS (cs_transpose se c0).2) (wCS c0 ++ [zA 2 1 fo]) = wCS (cs_transpose se c0).2 ++ [zA 2 1 fo] := zins_pre (w1 := wCS c0) rfl (wCS_ok _)
  rcases sh_transpose se c0 with ⟨a, ha⟩ | ⟨E1, hE, hE1⟩
  rotate_left
  · exact nomatch h1.trans hE1
  have h3 : v = some (zI a) := Sum.inl.inj (h1.trans ha)
  subst h3
  show Wa _ _ _ _ _ _ _ _ [zI a, zI 0, zR 53] _ _ _
  rw [hz]
  refine wa_i2lG (pc' := 8) dL_transpose_7 rfl ?_
  refine wa_lastore (pc' := 9) (k := 53) (n := 1) (w' := wCS (cs_transpose se c0).2 ++ [zA 2 1 (zup fo 0 (Int32.ofInt a).toInt)]) dL_transpose_8 rfl rfl (by decide) (by decide) (by decide) rfl ?_
  refine wa_goto (pc' := 15) dL_transpose_9 (by decide) ?_
  refine wa_iconst (pc' := 16) dL_transpose_15 rfl ?_
  exact wa_iret dL_transpose_16 rfl (Nat.le_of_ble_eq_true rfl) (Nat.le_of_ble_eq_true rfl) ⟨_, rfl, Or.inl ⟨a, ha, rfl, by rfl⟩⟩
theorem sh_difficulty (f : Int) (c0 : zCS) : ShI [eIA] (cs_difficulty f c0) := by
  obtain ⟨t, nm, s, D, H, ol, ct, k, y, si, fl, wi⟩ := c0
  unfold cs_difficulty
  repeat' (first | exact sh_i | exact sh_e (by simp) | apply sh_ite)
theorem hn_difficulty_eIA : zHan q_L_difficulty 4 eIA 1 := ⟨[], ⟨0, 9, 12, 13⟩, [], 3, rfl, (fun z hz => nomatch hz), ⟨rfl, by decide⟩, ⟨lc_eIA, la_eIA⟩, by decide, Or.inl ⟨3, rfl, dL_difficulty_12, dL_difficulty_13, dL_difficulty_14⟩, rfl⟩
set_option maxRecDepth 10000 in
theorem k_L_difficulty (c0 : zCS) (h : okC c0) (fo : Int → Int) (f : Int) (hf : zin f) : zMet q_L_difficulty 8 1 6 [zR 0, zI f, zR 53] (wCS c0 ++ [zA 2 1 fo]) (LH cd1 (cs_difficulty f c0)) := by
  refine z_introH (ls := [(0, zR 0), (1, zI f), (2, zR 53)]) (by decide +kernel) rfl (fun _ _ => rfl) (fun _ _ => Nat.le_of_ble_eq_true rfl) ?_
  refine wa_aload_n (pc' := 1) dL_difficulty_0 rfl rfl rfl ?_
  refine wa_iconst (pc' := 2) dL_difficulty_1 rfl ?_
  refine wa_aload_n (pc' := 3) dL_difficulty_2 rfl rfl rfl ?_
  refine wa_iload_n (pc' := 4) dL_difficulty_3 rfl rfl rfl ?_
  refine wa_callX (pc' := 7) (k_X9_difficulty c0.1 c0.2.1 c0.2.2.1 c0.2.2.2.1 c0.2.2.2.2.1 c0.2.2.2.2.2.1 c0.2.2.2.2.2.2.1 c0.2.2.2.2.2.2.2.1 c0.2.2.2.2.2.2.2.2.1 c0.2.2.2.2.2.2.2.2.2.1 c0.2.2.2.2.2.2.2.2.2.2.1 c0.2.2.2.2.2.2.2.2.2.2.2 h f hf) ok_X9_difficulty lm_L_75 dL_difficulty_4 rfl (List.range 53) (hsub_pre (w1 := wCS c0) (wCS_ok c0)) List.nodup_range rfl rfl rfl rfl rfl (by decide) (by decide) (by decide) (by decide) (fun o w' h9 => by rw [h9.2]; rfl) (fun E w1' h9 => ?_) (fun v w1' h9 => ?_)
  · obtain ⟨h1, rfl⟩ := h9
    have hz : zins (zre (List.range 53)) (List.range 53) (wCS (cs_difficulty f c0).2) (wCS c0 ++ [zA 2 1 fo]) = wCS (cs_difficulty f c0).2 ++ [zA 2 1 fo] := zins_pre (w1 := wCS c0) rfl (wCS_ok _)
    rcases sh_difficulty f c0 with ⟨a, ha⟩ | ⟨E1, hE, hE1⟩
    · exact nomatch h1.trans ha
    · have h3 : E = E1 := Sum.inr.inj (h1.trans hE1)
      subst h3
      simp only [List.mem_cons, List.not_mem_nil, or_false] at hE
      subst hE
      exact ⟨1, hn_difficulty_eIA, fo, hz, Or.inr ⟨_, hE1, rfl⟩⟩
  obtain ⟨h1, rfl⟩ := h9
  have hz : zins (zre (List.range 53)) (List.range 53) (wCS (cs_difficulty f c0).2) (wCS c0 ++ [zA 2 1 fo]) = wCS (cs_difficulty f c0).2 ++ [zA 2 1 fo] := zins_pre (w1 := wCS c0) rfl (wCS_ok _)
  rcases sh_difficulty f c0 with ⟨a, ha⟩ | ⟨E1, hE, hE1⟩
  rotate_left
  · exact nomatch h1.trans hE1
  have h3 : v = some (zI a) := Sum.inl.inj (h1.trans ha)
  subst h3
  show Wa _ _ _ _ _ _ _ _ [zI a, zI 0, zR 53] _ _ _
  rw [hz]
  refine wa_i2lG (pc' := 8) dL_difficulty_7 rfl ?_
  refine wa_lastore (pc' := 9) (k := 53) (n := 1) (w' := wCS (cs_difficulty f c0).2 ++ [zA 2 1 (zup fo 0 (Int32.ofInt a).toInt)]) dL_difficulty_8 rfl rfl (by decide) (by decide) (by decide) rfl ?_
  refine wa_goto (pc' := 15) dL_difficulty_9 (by decide) ?_
  refine wa_iconst (pc' := 16) dL_difficulty_15 rfl ?_
  exact wa_iret dL_difficulty_16 rfl (Nat.le_of_ble_eq_true rfl) (Nat.le_of_ble_eq_true rfl) ⟨_, rfl, Or.inl ⟨a, ha, rfl, by rfl⟩⟩
theorem sh_pairs (l : Int) (c0 : zCS) : ShI [eIO] (cs_pairs l c0) := by
  obtain ⟨t, nm, s, D, H, ol, ct, k, y, si, fl, wi⟩ := c0
  unfold cs_pairs
  repeat' (first | exact sh_i | exact sh_e (by simp) | apply sh_ite)
theorem hn_pairs_eIO : zHan q_L_pairs 4 eIO 1 := ⟨[], ⟨0, 9, 12, 23⟩, [], 3, rfl, (fun z hz => nomatch hz), ⟨rfl, by decide⟩, ⟨lc_eIO, la_eIO⟩, by decide, Or.inl ⟨3, rfl, dL_pairs_12, dL_pairs_13, dL_pairs_14⟩, rfl⟩
set_option maxRecDepth 10000 in
theorem k_L_pairs (c0 : zCS) (h : okC c0) (fo : Int → Int) (l : Int) (hl : zin l) : zMet q_L_pairs 10 1 6 [zR 0, zI l, zR 53] (wCS c0 ++ [zA 2 1 fo]) (LH cd1 (cs_pairs l c0)) := by
  refine z_introH (ls := [(0, zR 0), (1, zI l), (2, zR 53)]) (by decide +kernel) rfl (fun _ _ => rfl) (fun _ _ => Nat.le_of_ble_eq_true rfl) ?_
  refine wa_aload_n (pc' := 1) dL_pairs_0 rfl rfl rfl ?_
  refine wa_iconst (pc' := 2) dL_pairs_1 rfl ?_
  refine wa_aload_n (pc' := 3) dL_pairs_2 rfl rfl rfl ?_
  refine wa_iload_n (pc' := 4) dL_pairs_3 rfl rfl rfl ?_
  refine wa_callX (pc' := 7) (k_X9_pairs c0.1 c0.2.1 c0.2.2.1 c0.2.2.2.1 c0.2.2.2.2.1 c0.2.2.2.2.2.1 c0.2.2.2.2.2.2.1 c0.2.2.2.2.2.2.2.1 c0.2.2.2.2.2.2.2.2.1 c0.2.2.2.2.2.2.2.2.2.1 c0.2.2.2.2.2.2.2.2.2.2.1 c0.2.2.2.2.2.2.2.2.2.2.2 h l hl) ok_X9_pairs lm_L_78 dL_pairs_4 rfl (List.range 53) (hsub_pre (w1 := wCS c0) (wCS_ok c0)) List.nodup_range rfl rfl rfl rfl rfl (by decide) (by decide) (by decide) (by decide) (fun o w' h9 => by rw [h9.2]; rfl) (fun E w1' h9 => ?_) (fun v w1' h9 => ?_)
  · obtain ⟨h1, rfl⟩ := h9
    have hz : zins (zre (List.range 53)) (List.range 53) (wCS (cs_pairs l c0).2) (wCS c0 ++ [zA 2 1 fo]) = wCS (cs_pairs l c0).2 ++ [zA 2 1 fo] := zins_pre (w1 := wCS c0) rfl (wCS_ok _)
    rcases sh_pairs l c0 with ⟨a, ha⟩ | ⟨E1, hE, hE1⟩
    · exact nomatch h1.trans ha
    · have h3 : E = E1 := Sum.inr.inj (h1.trans hE1)
      subst h3
      simp only [List.mem_cons, List.not_mem_nil, or_false] at hE
      subst hE
      exact ⟨1, hn_pairs_eIO, fo, hz, Or.inr ⟨_, hE1, rfl⟩⟩
  obtain ⟨h1, rfl⟩ := h9
  have hz : zins (zre (List.range 53)) (List.range 53) (wCS (cs_pairs l c0).2) (wCS c0 ++ [zA 2 1 fo]) = wCS (cs_pairs l c0).2 ++ [zA 2 1 fo] := zins_pre (w1 := wCS c0) rfl (wCS_ok _)
  rcases sh_pairs l c0 with ⟨a, ha⟩ | ⟨E1, hE, hE1⟩
  rotate_left
  · exact nomatch h1.trans hE1
  have h3 : v = some (zI a) := Sum.inl.inj (h1.trans ha)
  subst h3
  show Wa _ _ _ _ _ _ _ _ [zI a, zI 0, zR 53] _ _ _
  rw [hz]
  refine wa_i2lG (pc' := 8) dL_pairs_7 rfl ?_
  refine wa_lastore (pc' := 9) (k := 53) (n := 1) (w' := wCS (cs_pairs l c0).2 ++ [zA 2 1 (zup fo 0 (Int32.ofInt a).toInt)]) dL_pairs_8 rfl rfl (by decide) (by decide) (by decide) rfl ?_
  refine wa_goto (pc' := 15) dL_pairs_9 (by decide) ?_
  refine wa_iconst (pc' := 16) dL_pairs_15 rfl ?_
  exact wa_iret dL_pairs_16 rfl (Nat.le_of_ble_eq_true rfl) (Nat.le_of_ble_eq_true rfl) ⟨_, rfl, Or.inl ⟨a, ha, rfl, by rfl⟩⟩
theorem sh_rowLength (l : Int) (p : Int) (kd : Int) (c0 : zCS) : ShI [eIO] (cs_rowLength l p kd c0) := by
  obtain ⟨t, nm, s, D, H, ol, ct, k, y, si, fl, wi⟩ := c0
  unfold cs_rowLength
  repeat' (first | exact sh_i | exact sh_e (by simp) | apply sh_ite)
theorem hn_rowLength_eIO : zHan q_L_rowLength 7 eIO 1 := ⟨[], ⟨0, 12, 15, 23⟩, [], 5, rfl, (fun z hz => nomatch hz), ⟨rfl, by decide⟩, ⟨lc_eIO, la_eIO⟩, by decide, Or.inr ⟨dL_rowLength_15, dL_rowLength_17, dL_rowLength_18⟩, rfl⟩
set_option maxRecDepth 10000 in
theorem k_L_rowLength (c0 : zCS) (h : okC c0) (fo : Int → Int) (l : Int) (hl : zin l) (p : Int) (hp : zin p) (kd : Int) (hkd : zin kd) : zMet q_L_rowLength 10 1 6 [zR 0, zI l, zI p, zI kd, zR 53] (wCS c0 ++ [zA 2 1 fo]) (LH cd1 (cs_rowLength l p kd c0)) := by
  refine z_introH (ls := [(0, zR 0), (1, zI l), (2, zI p), (3, zI kd), (4, zR 53)]) (by decide +kernel) rfl (fun _ _ => rfl) (fun _ _ => Nat.le_of_ble_eq_true rfl) ?_
  refine wa_aload (pc' := 2) dL_rowLength_0 rfl rfl ?_
  refine wa_iconst (pc' := 3) dL_rowLength_2 rfl ?_
  refine wa_aload_n (pc' := 4) dL_rowLength_3 rfl rfl rfl ?_
  refine wa_iload_n (pc' := 5) dL_rowLength_4 rfl rfl rfl ?_
  refine wa_iload_n (pc' := 6) dL_rowLength_5 rfl rfl rfl ?_
  refine wa_iload_n (pc' := 7) dL_rowLength_6 rfl rfl rfl ?_
  refine wa_callX (pc' := 10) (k_X9_rowLength c0.1 c0.2.1 c0.2.2.1 c0.2.2.2.1 c0.2.2.2.2.1 c0.2.2.2.2.2.1 c0.2.2.2.2.2.2.1 c0.2.2.2.2.2.2.2.1 c0.2.2.2.2.2.2.2.2.1 c0.2.2.2.2.2.2.2.2.2.1 c0.2.2.2.2.2.2.2.2.2.2.1 c0.2.2.2.2.2.2.2.2.2.2.2 h l hl p hp kd hkd) ok_X9_rowLength lm_L_81 dL_rowLength_7 rfl (List.range 53) (hsub_pre (w1 := wCS c0) (wCS_ok c0)) List.nodup_range rfl rfl rfl rfl rfl (by decide) (by decide) (by decide) (by decide) (fun o w' h9 => by rw [h9.2]; rfl) (fun E w1' h9 => ?_) (fun v w1' h9 => ?_)
  · obtain ⟨h1, rfl⟩ := h9
    have hz : zins (zre (List.range 53)) (List.range 53) (wCS (cs_rowLength l p kd c0).2) (wCS c0 ++ [zA 2 1 fo]) = wCS (cs_rowLength l p kd c0).2 ++ [zA 2 1 fo] := zins_pre (w1 := wCS c0) rfl (wCS_ok _)
    rcases sh_rowLength l p kd c0 with ⟨a, ha⟩ | ⟨E1, hE, hE1⟩
    · exact nomatch h1.trans ha
    · have h3 : E = E1 := Sum.inr.inj (h1.trans hE1)
      subst h3
      simp only [List.mem_cons, List.not_mem_nil, or_false] at hE
      subst hE
      exact ⟨1, hn_rowLength_eIO, fo, hz, Or.inr ⟨_, hE1, rfl⟩⟩
  obtain ⟨h1, rfl⟩ := h9
  have hz : zins (zre (List.range 53)) (List.range 53) (wCS (cs_rowLength l p kd c0).2) (wCS c0 ++ [zA 2 1 fo]) = wCS (cs_rowLength l p kd c0).2 ++ [zA 2 1 fo] := zins_pre (w1 := wCS c0) rfl (wCS_ok _)
  rcases sh_rowLength l p kd c0 with ⟨a, ha⟩ | ⟨E1, hE, hE1⟩
  rotate_left
  · exact nomatch h1.trans hE1
  have h3 : v = some (zI a) := Sum.inl.inj (h1.trans ha)
  subst h3
  show Wa _ _ _ _ _ _ _ _ [zI a, zI 0, zR 53] _ _ _
  rw [hz]
  refine wa_i2lG (pc' := 11) dL_rowLength_10 rfl ?_
  refine wa_lastore (pc' := 12) (k := 53) (n := 1) (w' := wCS (cs_rowLength l p kd c0).2 ++ [zA 2 1 (zup fo 0 (Int32.ofInt a).toInt)]) dL_rowLength_11 rfl rfl (by decide) (by decide) (by decide) rfl ?_
  refine wa_goto (pc' := 19) dL_rowLength_12 (by decide) ?_
  refine wa_iconst (pc' := 20) dL_rowLength_19 rfl ?_
  exact wa_iret dL_rowLength_20 rfl (Nat.le_of_ble_eq_true rfl) (Nat.le_of_ble_eq_true rfl) ⟨_, rfl, Or.inl ⟨a, ha, rfl, by rfl⟩⟩
theorem sh_rowChar (l : Int) (p : Int) (kd : Int) (c : Int) (c0 : zCS) : ShI [eIO] (cs_rowChar l p kd c c0) := by
  obtain ⟨t, nm, s, D, H, ol, ct, k, y, si, fl, wi⟩ := c0
  unfold cs_rowChar
  repeat' (first | exact sh_i | exact sh_e (by simp) | apply sh_ite)
theorem hn_rowChar_eIO : zHan q_L_rowChar 9 eIO 1 := ⟨[], ⟨0, 14, 17, 23⟩, [], 6, rfl, (fun z hz => nomatch hz), ⟨rfl, by decide⟩, ⟨lc_eIO, la_eIO⟩, by decide, Or.inr ⟨dL_rowChar_17, dL_rowChar_19, dL_rowChar_20⟩, rfl⟩
set_option maxRecDepth 10000 in
theorem k_L_rowChar (c0 : zCS) (h : okC c0) (fo : Int → Int) (l : Int) (hl : zin l) (p : Int) (hp : zin p) (kd : Int) (hkd : zin kd) (c : Int) (hc : zin c) : zMet q_L_rowChar 10 2 12 [zR 0, zI l, zI p, zI kd, zI c, zR 53] (wCS c0 ++ [zA 2 1 fo]) (LH cd1 (cs_rowChar l p kd c c0)) := by
  refine z_introH (ls := [(0, zR 0), (1, zI l), (2, zI p), (3, zI kd), (4, zI c), (5, zR 53)]) (by decide +kernel) rfl (fun _ _ => rfl) (fun _ _ => Nat.le_of_ble_eq_true rfl) ?_
  refine wa_aload (pc' := 2) dL_rowChar_0 rfl rfl ?_
  refine wa_iconst (pc' := 3) dL_rowChar_2 rfl ?_
  refine wa_aload_n (pc' := 4) dL_rowChar_3 rfl rfl rfl ?_
  refine wa_iload_n (pc' := 5) dL_rowChar_4 rfl rfl rfl ?_
  refine wa_iload_n (pc' := 6) dL_rowChar_5 rfl rfl rfl ?_
  refine wa_iload_n (pc' := 7) dL_rowChar_6 rfl rfl rfl ?_
  refine wa_iload (pc' := 9) dL_rowChar_7 rfl rfl ?_
  refine wa_callX (pc' := 12) (k_X9_rowChar c0.1 c0.2.1 c0.2.2.1 c0.2.2.2.1 c0.2.2.2.2.1 c0.2.2.2.2.2.1 c0.2.2.2.2.2.2.1 c0.2.2.2.2.2.2.2.1 c0.2.2.2.2.2.2.2.2.1 c0.2.2.2.2.2.2.2.2.2.1 c0.2.2.2.2.2.2.2.2.2.2.1 c0.2.2.2.2.2.2.2.2.2.2.2 h l hl p hp kd hkd c hc) ok_X9_rowChar lm_L_85 dL_rowChar_9 rfl (List.range 53) (hsub_pre (w1 := wCS c0) (wCS_ok c0)) List.nodup_range rfl rfl rfl rfl rfl (by decide) (by decide) (by decide) (by decide) (fun o w' h9 => by rw [h9.2]; rfl) (fun E w1' h9 => ?_) (fun v w1' h9 => ?_)
  · obtain ⟨h1, rfl⟩ := h9
    have hz : zins (zre (List.range 53)) (List.range 53) (wCS (cs_rowChar l p kd c c0).2) (wCS c0 ++ [zA 2 1 fo]) = wCS (cs_rowChar l p kd c c0).2 ++ [zA 2 1 fo] := zins_pre (w1 := wCS c0) rfl (wCS_ok _)
    rcases sh_rowChar l p kd c c0 with ⟨a, ha⟩ | ⟨E1, hE, hE1⟩
    · exact nomatch h1.trans ha
    · have h3 : E = E1 := Sum.inr.inj (h1.trans hE1)
      subst h3
      simp only [List.mem_cons, List.not_mem_nil, or_false] at hE
      subst hE
      exact ⟨1, hn_rowChar_eIO, fo, hz, Or.inr ⟨_, hE1, rfl⟩⟩
  obtain ⟨h1, rfl⟩ := h9
  have hz : zins (zre (List.range 53)) (List.range 53) (wCS (cs_rowChar l p kd c c0).2) (wCS c0 ++ [zA 2 1 fo]) = wCS (cs_rowChar l p kd c c0).2 ++ [zA 2 1 fo] := zins_pre (w1 := wCS c0) rfl (wCS_ok _)
  rcases sh_rowChar l p kd c c0 with ⟨a, ha⟩ | ⟨E1, hE, hE1⟩
  rotate_left
  · exact nomatch h1.trans hE1
  have h3 : v = some (zI a) := Sum.inl.inj (h1.trans ha)
  subst h3
  show Wa _ _ _ _ _ _ _ _ [zI a, zI 0, zR 53] _ _ _
  rw [hz]
  refine wa_i2lG (pc' := 13) dL_rowChar_12 rfl ?_
  refine wa_lastore (pc' := 14) (k := 53) (n := 1) (w' := wCS (cs_rowChar l p kd c c0).2 ++ [zA 2 1 (zup fo 0 (Int32.ofInt a).toInt)]) dL_rowChar_13 rfl rfl (by decide) (by decide) (by decide) rfl ?_
  refine wa_goto (pc' := 21) dL_rowChar_14 (by decide) ?_
  refine wa_iconst (pc' := 22) dL_rowChar_21 rfl ?_
  exact wa_iret dL_rowChar_22 rfl (Nat.le_of_ble_eq_true rfl) (Nat.le_of_ble_eq_true rfl) ⟨_, rfl, Or.inl ⟨a, ha, rfl, by rfl⟩⟩
theorem sh_undo  (c0 : zCS) : ShI [eIS] (cs_undo c0) := by
  obtain ⟨t, nm, s, D, H, ol, ct, k, y, si, fl, wi⟩ := c0
  unfold cs_undo
  repeat' (first | exact sh_i | exact sh_e (by simp) | apply sh_ite)
theorem hn_undo_eIS : zHan q_L_undo 3 eIS 1 := ⟨[], ⟨0, 8, 11, 15⟩, [], 2, rfl, (fun z hz => nomatch hz), ⟨rfl, by decide⟩, ⟨lc_eIS, la_eIS⟩, by decide, Or.inl ⟨2, rfl, dL_undo_11, dL_undo_12, dL_undo_13⟩, rfl⟩
set_option maxRecDepth 10000 in
theorem k_L_undo (c0 : zCS) (h : okC c0) (fo : Int → Int)  : zMet q_L_undo 8 1 6 [zR 0, zR 53] (wCS c0 ++ [zA 2 1 fo]) (LH cd1 (cs_undo c0)) := by
  refine z_introH (ls := [(0, zR 0), (1, zR 53)]) (by decide +kernel) rfl (fun _ _ => rfl) (fun _ _ => Nat.le_of_ble_eq_true rfl) ?_
  refine wa_aload_n (pc' := 1) dL_undo_0 rfl rfl rfl ?_
  refine wa_iconst (pc' := 2) dL_undo_1 rfl ?_
  refine wa_aload_n (pc' := 3) dL_undo_2 rfl rfl rfl ?_
  refine wa_callX (pc' := 6) (k_X9_undo c0.1 c0.2.1 c0.2.2.1 c0.2.2.2.1 c0.2.2.2.2.1 c0.2.2.2.2.2.1 c0.2.2.2.2.2.2.1 c0.2.2.2.2.2.2.2.1 c0.2.2.2.2.2.2.2.2.1 c0.2.2.2.2.2.2.2.2.2.1 c0.2.2.2.2.2.2.2.2.2.2.1 c0.2.2.2.2.2.2.2.2.2.2.2 h) ok_X9_undo lm_L_89 dL_undo_3 rfl (List.range 53) (hsub_pre (w1 := wCS c0) (wCS_ok c0)) List.nodup_range rfl rfl rfl rfl rfl (by decide) (by decide) (by decide) (by decide) (fun o w' h9 => by rw [h9.2]; rfl) (fun E w1' h9 => ?_) (fun v w1' h9 => ?_)
  · obtain ⟨h1, rfl⟩ := h9
    have hz : zins (zre (List.range 53)) (List.range 53) (wCS (cs_undo c0).2) (wCS c0 ++ [zA 2 1 fo]) = wCS (cs_undo c0).2 ++ [zA 2 1 fo] := zins_pre (w1 := wCS c0) rfl (wCS_ok _)
    rcases sh_undo  c0 with ⟨a, ha⟩ | ⟨E1, hE, hE1⟩
    · exact nomatch h1.trans ha
    · have h3 : E = E1 := Sum.inr.inj (h1.trans hE1)
      subst h3
      simp only [List.mem_cons, List.not_mem_nil, or_false] at hE
      subst hE
      exact ⟨1, hn_undo_eIS, fo, hz, Or.inr ⟨_, hE1, rfl⟩⟩
  obtain ⟨h1, rfl⟩ := h9
  have hz : zins (zre (List.range 53)) (List.range 53) (wCS (cs_undo c0).2) (wCS c0 ++ [zA 2 1 fo]) = wCS (cs_undo c0).2 ++ [zA 2 1 fo] := zins_pre (w1 := wCS c0) rfl (wCS_ok _)
  rcases sh_undo  c0 with ⟨a, ha⟩ | ⟨E1, hE, hE1⟩
  rotate_left
  · exact nomatch h1.trans hE1
  have h3 : v = some (zI a) := Sum.inl.inj (h1.trans ha)
  subst h3
  show Wa _ _ _ _ _ _ _ _ [zI a, zI 0, zR 53] _ _ _
  rw [hz]
  refine wa_i2lG (pc' := 7) dL_undo_6 rfl ?_
  refine wa_lastore (pc' := 8) (k := 53) (n := 1) (w' := wCS (cs_undo c0).2 ++ [zA 2 1 (zup fo 0 (Int32.ofInt a).toInt)]) dL_undo_7 rfl rfl (by decide) (by decide) (by decide) rfl ?_
  refine wa_goto (pc' := 14) dL_undo_8 (by decide) ?_
  refine wa_iconst (pc' := 15) dL_undo_14 rfl ?_
  exact wa_iret dL_undo_15 rfl (Nat.le_of_ble_eq_true rfl) (Nat.le_of_ble_eq_true rfl) ⟨_, rfl, Or.inl ⟨a, ha, rfl, by rfl⟩⟩
