/-! TABLES for constructors: Object.<init>, classes and arrays that are made -/
theorem oi_inst : Cond.instanceMethod Lib.objectInit ∈ lw_tbl := List.mem_of_getElem? (i := 55) (by decide +kernel)
theorem oi_code : Cond.code Lib.objectInit ⟨#[0xb1]⟩ 1 none ∈ lw_tbl := List.mem_of_getElem? (i := 56) (by decide +kernel)
theorem lar_char : Cond.arrayClass (newarray.typeOf .char) ∈ lw_tbl := List.mem_of_getElem? (i := 70) (by decide +kernel)
theorem lar_int : Cond.arrayClass (newarray.typeOf .int) ∈ lw_tbl := List.mem_of_getElem? (i := 101) (by decide +kernel)
theorem lcl_L_16 : Cond.classLink RL 16 RX9 ∈ lw_tbl := List.mem_of_getElem? (i := 49) (by decide +kernel)
theorem lo_X9 : Cond.methodLink RX9 1 Lib.objectInit ∈ lw_tbl := List.mem_of_getElem? (i := 54) (by decide +kernel)
theorem lcl_X9_7 : Cond.classLink RX9 7 RX7 ∈ lw_tbl := List.mem_of_getElem? (i := 57) (by decide +kernel)
theorem lo_X7 : Cond.methodLink RX7 3 Lib.objectInit ∈ lw_tbl := List.mem_of_getElem? (i := 62) (by decide +kernel)
theorem lcl_X9_19 : Cond.classLink RX9 19 RX8 ∈ lw_tbl := List.mem_of_getElem? (i := 71) (by decide +kernel)
theorem lo_X8 : Cond.methodLink RX8 3 Lib.objectInit ∈ lw_tbl := List.mem_of_getElem? (i := 76) (by decide +kernel)
theorem lcl_X9_29 : Cond.classLink RX9 29 RX1 ∈ lw_tbl := List.mem_of_getElem? (i := 102) (by decide +kernel)
theorem lo_X1 : Cond.methodLink RX1 3 Lib.objectInit ∈ lw_tbl := List.mem_of_getElem? (i := 107) (by decide +kernel)
theorem lcl_X1_9 : Cond.classLink RX1 9 RX8 ∈ lw_tbl := List.mem_of_getElem? (i := 108) (by decide +kernel)
theorem lcl_X9_36 : Cond.classLink RX9 36 RX6 ∈ lw_tbl := List.mem_of_getElem? (i := 121) (by decide +kernel)
theorem lo_X6 : Cond.methodLink RX6 3 Lib.objectInit ∈ lw_tbl := List.mem_of_getElem? (i := 126) (by decide +kernel)
theorem lcl_X9_45 : Cond.classLink RX9 45 RX3 ∈ lw_tbl := List.mem_of_getElem? (i := 146) (by decide +kernel)
theorem lo_X3 : Cond.methodLink RX3 3 Lib.objectInit ∈ lw_tbl := List.mem_of_getElem? (i := 151) (by decide +kernel)
theorem lcl_X3_9 : Cond.classLink RX3 9 RX7 ∈ lw_tbl := List.mem_of_getElem? (i := 152) (by decide +kernel)
theorem born_X1 : ∀ ac ad : Nat → Nat, ∀ j, j < 3 → defaultValue (tyX1 j) = vp_V (([zN, zI 0, zI 0] : List zV).map (zc ac ad)) j
  | _, _, 0, _ => rfl
  | _, _, 1, _ => rfl
  | _, _, 2, _ => rfl
  | _, _, j + 3, h => absurd h (by omega)
theorem born_X3 : ∀ ac ad : Nat → Nat, ∀ j, j < 11 → defaultValue (tyX3 j) = vp_V (([zN, zN, zN, zI 0, zI 0, zI 0, zI 0, zI 0, zI 0, zI 0, zI 0] : List zV).map (zc ac ad)) j
  | _, _, 0, _ => rfl
  | _, _, 1, _ => rfl
  | _, _, 2, _ => rfl
  | _, _, 3, _ => rfl
  | _, _, 4, _ => rfl
  | _, _, 5, _ => rfl
  | _, _, 6, _ => rfl
  | _, _, 7, _ => rfl
  | _, _, 8, _ => rfl
  | _, _, 9, _ => rfl
  | _, _, 10, _ => rfl
  | _, _, j + 11, h => absurd h (by omega)
theorem born_X6 : ∀ ac ad : Nat → Nat, ∀ j, j < 6 → defaultValue (tyX6 j) = vp_V (([zN, zI 0, zI 0, zI 0, zI 0, zI 0] : List zV).map (zc ac ad)) j
  | _, _, 0, _ => rfl
  | _, _, 1, _ => rfl
  | _, _, 2, _ => rfl
  | _, _, 3, _ => rfl
  | _, _, 4, _ => rfl
  | _, _, 5, _ => rfl
  | _, _, j + 6, h => absurd h (by omega)
theorem born_X7 : ∀ ac ad : Nat → Nat, ∀ j, j < 2 → defaultValue (tyX7 j) = vp_V (([zN, zI 0] : List zV).map (zc ac ad)) j
  | _, _, 0, _ => rfl
  | _, _, 1, _ => rfl
  | _, _, j + 2, h => absurd h (by omega)
theorem born_X8 : ∀ ac ad : Nat → Nat, ∀ j, j < 7 → defaultValue (tyX8 j) = vp_V (([zN, zN, zI 0, zN, zI 0, zI 0, zI 0] : List zV).map (zc ac ad)) j
  | _, _, 0, _ => rfl
  | _, _, 1, _ => rfl
  | _, _, 2, _ => rfl
  | _, _, 3, _ => rfl
  | _, _, 4, _ => rfl
  | _, _, 5, _ => rfl
  | _, _, 6, _ => rfl
  | _, _, j + 7, h => absurd h (by omega)
theorem born_X9 : ∀ ac ad : Nat → Nat, ∀ j, j < 10 → defaultValue (tyX9 j) = vp_V (([zN, zN, zN, zN, zN, zN, zN, zI 0, zI 0, zI 0] : List zV).map (zc ac ad)) j
  | _, _, 0, _ => rfl
  | _, _, 1, _ => rfl
  | _, _, 2, _ => rfl
  | _, _, 3, _ => rfl
  | _, _, 4, _ => rfl
  | _, _, 5, _ => rfl
  | _, _, 6, _ => rfl
  | _, _, 7, _ => rfl
  | _, _, 8, _ => rfl
  | _, _, 9, _ => rfl
  | _, _, j + 10, h => absurd h (by omega)
section ZOBJ
variable {Y : zY} {d mc ms n0 : Nat} {Post : zP → List zE → Prop} {pc pc' : Nat} {ls : List (Nat × zV)} {st : List zV} {w w' : List zE} {nc ns nc' ns' : Nat}
theorem wa_objI {k idx : Nat} (hlink : Cond.methodLink Y.1.cls idx Lib.objectInit ∈ lw_tbl) (hd : decode Y.2.1 pc = .ok (.invokespecial idx, 3)) (hp : pc + 3 = pc') (hd1 : 1 ≤ d) (hcat : (st.map zcat).sum ≤ 8) (k9 : Wa Y d mc ms n0 Post pc' ls st w nc ns) : Wa Y d mc ms n0 Post pc ls (zR k :: st) w nc ns := by
  subst hp
  intro p l e R s m args below meth c G A ad0 Qm C9 F ad H locs lsA hag hst hl
  have kk := k9 p l e R s m args below meth c G A ad0 Qm C9 F ad H locs lsA hag hst hl
  obtain ⟨hfl, hR, hx, hb, hml, hr, hown, hlk, hnm, htb, hT, hE, hA⟩ := id C9
  exact W.objInit (rest := st.map (zc G.2.2.1 ad)) hx hb hown (hT.at hlink (zgood_c _ rfl) _) (hT.at oi_inst (zgood_c _ rfl) _) (hT.at oi_code (zgood_c _ rfl) _) rfl (hl.1.trans hml.symm) rfl hd (by omega) (Nat.le_trans (Nat.add_le_add_right (lv_room (z_cat hcat)) 12) (by omega)) kk
theorem wa_anew {idx n : Nat} {x : Int} (hlink : Cond.classLink Y.1.cls idx "ChordSheet$Sheet" ∈ lw_tbl) (hd : decode Y.2.1 pc = .ok (.anewarray idx, 3)) (hp : pc + 3 = pc') (hn : x = n) (hn9 : n ≤ 100000) (hw : zokw w.length w) (hls : ls.all (fun q => zokv w.length q.2) = true) (hst : st.all (zokv w.length) = true) (hnc : nc + 1 = nc') (hns : ns + n = ns') (hmc : nc' ≤ mc) (hms : ns' ≤ ms) (hw' : w ++ [zQ n (fun _ => none)] = w')
    (k : Wa Y d mc ms n0 Post pc' ls (zR w.length :: st) w' nc' ns') : Wa Y d mc ms n0 Post pc ls (zI x :: st) w nc ns := by
  subst hw'
  subst hnc
  subst hns
  subst hp
  subst hn
  intro p l e R s m args below meth c G A ad0 Qm C9 F ad H locs lsA hag hst9 hl
  obtain ⟨hfl, hR, hx, hb, hml, hr, hown, hlk, hnm, htb, hT, hE, hA⟩ := id C9
  obtain ⟨hP, hD, hS⟩ := id hst9
  have hz : zin (n : Int) := ⟨by omega, by omega⟩
  have hn0 : ¬ (Int32.ofInt (n : Int)) < 0 := by
    rw [← zi_0, zi_lt hz (by decide)]
    omega
  have hN : (Int32.ofInt (n : Int)).toNatClampNeg = n := by rw [zi_cl hz]; rfl
  refine va_newq (tys := zTys G) hx hb hown (hT.at hlink (zgood_c _ rfl) _) hE.1.2 hE.1.1 hP hD hS hA hn0 hN (by omega) (by omega) (by omega) hd (fun q cA H1 hK1 hP1 hD1 hS1 => ?_)
  have hc : G.2.1 3 = cA := by
    obtain ⟨_, _, _, _, _, h1⟩ := (hE.1.1.2 3 _ rfl).2
    obtain ⟨_, _, _, _, _, h2⟩ := (hK1.2 4 (cA, .object "ChordSheet$Sheet") rfl).2
    exact Option.some.inj ((show s.vm.findClass _ = some (G.2.1 3) from h1).symm.trans h2)
  subst hc
  exact Wa.wN (zQ n (fun _ => none)) k C9 F hag hw hls hst rfl ⟨hP1, hD1, hS1⟩ hl
def zupQ (f : Nat → Option Nat) (i q : Nat) : Nat → Option Nat := fun j => if j = i then some q else f j
theorem zupQ_ok {n q i : Nat} {f : Nat → Option Nat} (h : ∀ j k, f j = some k → k < n) (hq : q < n) : ∀ j k, zupQ f i q j = some k → k < n := by
  intro j k h1
  unfold zupQ at h1
  split at h1
  · cases h1; exact hq
  · exact h j k h1
theorem wa_aastore {k q n : Nat} {f : Nat → Option Nat} {i : Int} {fs : List zV} (hd : decode Y.2.1 pc = .ok (.aastore, 1)) (hp : pc + 1 = pc') (he : w[k]? = some (zQ n f)) (hv : w[q]? = some (zO 4 fs)) (h0 : 0 ≤ i) (h1 : i < n) (hn : n < 2147483648) (hw : w.set k (zQ n (zupQ f i.toNat q)) = w') (k9 : Wa Y d mc ms n0 Post pc' ls st w' nc ns) : Wa Y d mc ms n0 Post pc ls (zR q :: zI i :: zR k :: st) w nc ns := by
  subst hp
  subst hw
  intro p l e R s m args below meth c G A ad0 Qm C9 F ad H locs lsA hag hst hl
  obtain ⟨hfl, hR, hx, hb, hml, hr, hown, hlk, hnm, htb, hT, hE, hA⟩ := id C9
  obtain ⟨hP, hD, hS⟩ := id hst
  refine va_astq (r := (RX8, TX8, 7)) hx hb hE.1.1 hP hD hS k 3 q 4 (zw_get he) rfl (zw_get hv) zc_X8.1 (zi_vp h0 h1 hn) hd (fun H1 locs1 hP1 hD1 hS1 => ?_)
  refine Wa.wW k9 C9 F (by rw [List.length_set]; exact hag) ?_ ⟨hP1, hD1, hS1⟩ hl
  rw [zw_set, zi_cl ⟨by omega, by omega⟩]
  have e9 : (fun j => (zupQ f i.toNat q j).map ad) = va_up (fun j => (f j).map ad) i.toNat (some (ad q)) := by
    funext j
    unfold zupQ va_up
    by_cases hj : j = i.toNat
    · rw [if_pos hj]; simp [hj]
    · rw [if_neg hj]; simp [hj]
  show (zw G ad w).set k (ad k, .inl (G.2.1 3, n, .inr (.inr (.inr (.inr fun j => (zupQ f i.toNat q j).map ad))))) = _
  rw [e9]
end ZOBJ
section ZIVN
variable {Y Y1 : zY} {d d1 mc ms mc1 ms1 n0 : Nat} {Post : zP → List zE → Prop} {pc pc' : Nat} {ls : List (Nat × zV)} {st stk as : List zV} {w w1 w2 w9 : List zE} {nc ns nc' ns' : Nat} {ρ : List Nat}
theorem z_cbN {n idx : Nat} {host : String} {R : Room} {s : State} {args : Array Value} (hO : zOk Y1 n) (hT : zTab s) (hlink : Cond.methodLinkNest Y.1.cls idx Y1.1 host ∈ lw_tbl) (hd : d1 + 1 ≤ d) (hR : d ≤ R.frames ∧ 34 * d ≤ R.locals ∧ mc ≤ R.cells ∧ ms ≤ R.slots) :
    va_CN R s args Y.1.cls idx Y1.1 host Y1.2.1 Y1.2.2.1 Y1.2.2.2.1 [zwd Y1] (zRm d1 mc1 ms1) mc1 ms1 n := by
  obtain ⟨h1, h2, h3, h4, h5, h6⟩ := hO
  have hw : zwd Y1 = .code Y1.1 Y1.2.1 Y1.2.2.1 Y1.2.2.2.1 := by unfold zwd; rw [h6]
  refine ⟨⟨rfl, rfl, by show d1 + 1 ≤ R.frames; omega, by show 8 + (Y1.2.2.1 + 11) + 34 * d1 ≤ R.locals; omega, fun w hw9 a' U hW => ?_, by rw [hw]; exact List.mem_cons_self⟩, ?_, hT.at h2 (zgood_c _ rfl) _, h3, fun sig h => ?_, hT.at hlink (zgood_k _ rfl) _⟩
  · rw [List.mem_singleton] at hw9
    subst hw9
    exact (zTab_warm hW hT).at h1 (zgood_c _ (zwd_good Y1)) _
  · rw [← hw]
    exact hT.at h1 (zgood_c _ (zwd_good Y1)) _
  · rw [h] at h4
    exact (Option.some.inj h4).symm
theorem wa_iVN {q : Nat} {idx n : Nat} {host : String} (M : zMet Y1 d1 mc1 ms1 (zR q :: as) w1 (zD none w9)) (hO : zOkI Y1 n) (hlink : Cond.methodLinkNest Y.1.cls idx Y1.1 host ∈ lw_tbl) (hd : decode Y.2.1 pc = .ok (.invokespecial idx, 3)) (hp : pc + 3 = pc') (ρ : List Nat) (hsub : ρ.map (fun i => w[i]?) = w1.map fun e => some (zre ρ e)) (hn : ρ.Nodup) (hstk : (as.map (zrv ρ)).reverse ++ zR (ρ.getD q 0) :: st = stk) (hna : as.length = n) (hd1 : d1 + 1 ≤ d) (hcat : (st.map zcat).sum ≤ 8) (hw : zokw w.length w) (hls : ls.all (fun q => zokv w.length q.2) = true) (hsk : st.all (zokv w.length) = true) (hw0 : 0 < w.length) (hnc : nc + mc1 = nc') (hns : ns + ms1 = ns') (hmc : nc' ≤ mc) (hms : ns' ≤ ms)
    (hw2 : zins (zre (zrx ρ w.length (w9.length - w1.length))) (zrx ρ w.length (w9.length - w1.length)) w9 (w ++ w9.drop w1.length) = w2)
    (k : Wa Y d mc ms n0 Post pc' ls st w2 nc' ns') : Wa Y d mc ms n0 Post pc ls stk w nc ns := by
  subst hp
  subst hstk
  subst hnc
  subst hns
  intro p l e R s m args below meth c G A ad0 Qm C9 F ad H locs lsA hag hst hl
  obtain ⟨hfl, hR, hx, hb, hml, hr9, hown, hlk, hnm, htb, hT, hE, hA⟩ := id C9
  refine z_goD (a := ((zR q :: as).map (zc G.2.2.1 (fun k => ad (ρ.getD k 0)))).toArray) C9 F hag hst hl hsub hn hw hls hsk hw0 ?_ hw2 k
  have hcb := z_cbN (Y := Y) (mc1 := mc1) (ms1 := ms1) (args := args) hO.1 hT hlink hd1 hR
  rw [hO.2.2.2] at hcb
  refine vx_runIN (As := as.map (zc G.2.2.1 (fun k => ad (ρ.getD k 0)))) (b := ad (ρ.getD q 0)) (cc := Y.2.1) (nL := Y.2.2.1) (Ts := []) ⟨hx, hb, hml, hown, fun _ h => nomatch h⟩ (M l G (fun k => ad (ρ.getD k 0)) H.size hfl) ⟨hcb, hO.2.2.1, hT.at hO.2.1 (zgood_c _ rfl) _⟩ (z_pre (as := zR q :: as) hsub hn hst hE hT hA) rfl (by rw [List.length_map]; exact hna) hl.1 ?_ (lv_room (z_cat hcat)) hd ⟨by omega, by omega⟩
  show List.map _ _ = _
  rw [List.map_append, List.map_reverse, z_map]
  rfl
end ZIVN
