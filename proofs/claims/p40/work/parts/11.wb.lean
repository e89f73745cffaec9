/-! THE LAYER, 2: fields, arrays, constants, new cells, answers, throws -/
def zCl (ci : Nat) (C : String) (T : u_T) (N : Nat) (ty : Nat → FieldType) : Prop :=
  vwCl[ci]? = some (C, T, N) ∧ (∀ w ∈ u_ws C T N, w ∈ lw_tbl ∧ (goodWord w || zt_k w) = true) ∧ (∀ k, k < N → parseFieldDescriptor (T k).2.2.1 = some (ty k)) ∧ (∀ a, a < N → ∀ b, b < N → a ≠ b → (T a).2.1 ≠ (T b).2.1) ∧ (∀ k, k < N → (T k).1 = C) ∧ Cond.instantiable C N ∈ lw_tbl ∧ Cond.initialized C ∈ lw_tbl
theorem zgood_c (w : Cond) (h : goodWord w = true) : (goodWord w || zt_k w) = true := by rw [h]; rfl
theorem zgood_k (w : Cond) (h : zt_k w = true) : (goodWord w || zt_k w) = true := by rw [h, Bool.or_true]
def zfit (ty : FieldType) (v : zV) : Prop := match ty, v with
  | .int, .inl _ => True
  | .boolean, .inl n => n = 0 ∨ n = 1
  | .object _, .inr (.inr _) => True
  | .array _, .inr (.inr _) => True
  | _, _ => False
theorem zfit_n {ty : FieldType} {v : zV} (h : zfit ty v) (ac ad : Nat → Nat) : narrow ty (zc ac ad v) = zc ac ad v ∧ fits ty (zc ac ad v) = true := by
  rcases v with n | n | _ | k | k <;> cases ty <;> simp only [zfit] at h <;> first | exact ⟨rfl, rfl⟩ | (rcases h with rfl | rfl <;> exact ⟨rfl, rfl⟩)
section ZX
variable {Y : zY} {d mc ms n0 : Nat} {Post : zP → List zE → Prop} {pc pc' : Nat} {ls : List (Nat × zV)} {st : List zV} {w : List zE} {nc ns : Nat}
theorem Wa.wW {Y : zY} {d mc ms n0 : Nat} {Post : zP → List zE → Prop} {pc : Nat} {ls : List (Nat × zV)} {st : List zV} {w : List zE} {nc ns : Nat} (k : Wa Y d mc ms n0 Post pc ls st w nc ns) {p : Program} {l : Launch} {e : Env} {R : Room} {s : State} {m : MethodId} {args : Array Value} {below : List Frame} {meth : Method} {c : Code} {G : zG} {A : Nat → Prop} {ad0 : Nat → Nat} {Qm : State → Prop}
    (C : zCx Y d mc ms p l R s m meth c G A) (F : zFin Y mc ms n0 Post p l e R s m args below meth c G A ad0 Qm) {ad : Nat → Nat} {H : Heap} {locs : List Loc} {lsA : Array Slot} (hag : n0 ≤ w.length ∧ zAg n0 w.length ad ad0) {W9 : va_W} (hW : zw G ad w = W9) (h : va_P G.1 vwCl W9 H ∧ va_D A W9 ∧ va_S A s.heap H locs) (hl : lv_has lsA Y.2.2.1 (zls G.2.2.1 ad ls)) : W p l e R s m args below meth c H locs nc ns Qm (F0 m pc lsA (st.map (zc G.2.2.1 ad))) := by
  subst hW
  exact k p l e R s m args below meth c G A ad0 Qm C F ad H locs lsA hag h hl
theorem wa_getfield {k idx ci j N : Nat} {fs : List zV} {v : zV} {C : String} {T : u_T} {ty : Nat → FieldType} (hC : zCl ci C T N ty) (hlink : Cond.fieldLink Y.1.cls idx C (T j).2.1 (T j).2.2.1 ∈ lw_tbl) (hd : decode Y.2.1 pc = .ok (.getfield idx, 3)) (hp : pc + 3 = pc') (hj : j < N) (he : w[k]? = some (zO ci fs)) (hv : fs[j]? = some v) (k9 : Wa Y d mc ms n0 Post pc' ls (v :: st) w nc ns) : Wa Y d mc ms n0 Post pc ls (zR k :: st) w nc ns := by
  subst hp
  intro p l e R s m args below meth c G A ad0 Qm C9 F ad H locs lsA hag hst hl
  have kk := k9 p l e R s m args below meth c G A ad0 Qm C9 F ad H locs lsA hag hst hl
  obtain ⟨hfl, hR, hx, hb, hml, hr, hown, hlk, hnm, htb, hT, hE, hA⟩ := id C9
  obtain ⟨hP, hD, hS⟩ := id hst
  refine va_get (Ts := u_ws C T N) hx hb (fun w9 h9 => hT.at (hC.2.1 w9 h9).1 (hC.2.1 w9 h9).2 _) (fun _ h9 => h9) hown hE.1.1 hP k (zw_get he) hC.1 j hj (hT.at hlink (zgood_c _ rfl) _) (by rw [hC.2.2.2.2.1 j hj]; exact fun _ h9 => h9) (v := zc G.2.2.1 ad v) (by rw [List.getElem?_map, hv]; rfl) hd ?_
  exact kk
theorem wa_putfield {k idx ci j N : Nat} {fs : List zV} {v : zV} {w' : List zE} {C : String} {T : u_T} {ty : Nat → FieldType} (hC : zCl ci C T N ty) (hlink : Cond.fieldLink Y.1.cls idx C (T j).2.1 (T j).2.2.1 ∈ lw_tbl) (hd : decode Y.2.1 pc = .ok (.putfield idx, 3)) (hp : pc + 3 = pc') (hj : j < N) (hfin : (T j).2.2.2 = false) (he : w[k]? = some (zO ci fs)) (hl9 : j < fs.length) (hv : zfit (ty j) v) (hw : w.set k (zO ci (fs.set j v)) = w') (k9 : Wa Y d mc ms n0 Post pc' ls st w' nc ns) : Wa Y d mc ms n0 Post pc ls (v :: zR k :: st) w nc ns := by
  subst hw
  subst hp
  intro p l e R s m args below meth c G A ad0 Qm C9 F ad H locs lsA hag hst hl
  obtain ⟨hfl, hR, hx, hb, hml, hr, hown, hlk, hnm, htb, hT, hE, hA⟩ := id C9
  obtain ⟨hP, hD, hS⟩ := id hst
  refine va_put (Ts := u_ws C T N) hx hb (fun w9 h9 => hT.at (hC.2.1 w9 h9).1 (hC.2.1 w9 h9).2 _) (fun _ h9 => h9) ty hC.2.2.1 hC.2.2.2.1 hown hE.1.1 hP hD hS k (zw_get he) hC.1 j hj (hT.at hlink (zgood_c _ rfl) _) (by rw [hC.2.2.2.2.1 j hj]; exact fun _ h9 => h9) hfin (v := zc G.2.2.1 ad v) (hC.2.2.1 j hj) (zfit_n hv _ _).1 (zfit_n hv _ _).2 (by rw [List.length_map]; exact hl9) hd (fun H1 locs1 hP1 hD1 hS1 => ?_)
  refine Wa.wW k9 C9 F (by rw [List.length_set]; exact hag) ?_ ⟨hP1, hD1, hS1⟩ hl
  rw [zw_set]
  simp only [ze, List.map_set]
theorem wa_putfieldF {k idx ci j N : Nat} {fs : List zV} {v : zV} {w' : List zE} {C : String} {T : u_T} {ty : Nat → FieldType} (hC : zCl ci C T N ty) (hlink : Cond.fieldLink Y.1.cls idx C (T j).2.1 (T j).2.2.1 ∈ lw_tbl) (hd : decode Y.2.1 pc = .ok (.putfield idx, 3)) (hp : pc + 3 = pc') (hj : j < N) (hfin : (T j).2.2.2 = true) (hini : Y.1.name = "<init>") (hC2 : C = Y.1.cls) (he : w[k]? = some (zO ci fs)) (hl9 : j < fs.length) (hv : zfit (ty j) v) (hw : w.set k (zO ci (fs.set j v)) = w') (k9 : Wa Y d mc ms n0 Post pc' ls st w' nc ns) : Wa Y d mc ms n0 Post pc ls (v :: zR k :: st) w nc ns := by
  subst hw
  subst hp
  intro p l e R s m args below meth c G A ad0 Qm C9 F ad H locs lsA hag hst hl
  obtain ⟨hfl, hR, hx, hb, hml, hr, hown, hlk, hnm, htb, hT, hE, hA⟩ := id C9
  obtain ⟨hP, hD, hS⟩ := id hst
  refine va_putF (Ts := u_ws C T N) hx hb (fun w9 h9 => hT.at (hC.2.1 w9 h9).1 (hC.2.1 w9 h9).2 _) (fun _ h9 => h9) ty hC.2.2.1 hC.2.2.2.1 hown hE.1.1 hP hD hS k (zw_get he) hC.1 j hj (hT.at hlink (zgood_c _ rfl) _) (by rw [hC.2.2.2.2.1 j hj]; exact fun _ h9 => h9) hfin (hnm.trans hini) ((hC.2.2.2.2.1 j hj).trans hC2) (v := zc G.2.2.1 ad v) (hC.2.2.1 j hj) (zfit_n hv _ _).1 (zfit_n hv _ _).2 (by rw [List.length_map]; exact hl9) hd (fun H1 locs1 hP1 hD1 hS1 => ?_)
  refine Wa.wW k9 C9 F (by rw [List.length_set]; exact hag) ?_ ⟨hP1, hD1, hS1⟩ hl
  rw [zw_set]
  simp only [ze, List.map_set]
theorem wa_getfieldN {k idx ci j N : Nat} {fs : List zV} {v : zV} {C : String} {T : u_T} {ty : Nat → FieldType} {host : String} (hC : zCl ci C T N ty) (hlink : Cond.fieldLinkNest Y.1.cls idx C (T j).2.1 (T j).2.2.1 host ∈ lw_tbl) (hd : decode Y.2.1 pc = .ok (.getfield idx, 3)) (hp : pc + 3 = pc') (hj : j < N) (he : w[k]? = some (zO ci fs)) (hv : fs[j]? = some v) (k9 : Wa Y d mc ms n0 Post pc' ls (v :: st) w nc ns) : Wa Y d mc ms n0 Post pc ls (zR k :: st) w nc ns := by
  subst hp
  intro p l e R s m args below meth c G A ad0 Qm C9 F ad H locs lsA hag hst hl
  have kk := k9 p l e R s m args below meth c G A ad0 Qm C9 F ad H locs lsA hag hst hl
  obtain ⟨hfl, hR, hx, hb, hml, hr, hown, hlk, hnm, htb, hT, hE, hA⟩ := id C9
  obtain ⟨hP, hD, hS⟩ := id hst
  refine va_getN (Ts := u_ws C T N) hx hb (fun w9 h9 => hT.at (hC.2.1 w9 h9).1 (hC.2.1 w9 h9).2 _) (fun _ h9 => h9) hown hE.1.1 hP k (zw_get he) hC.1 j hj (hT.at hlink (zgood_k _ rfl) _) (by rw [hC.2.2.2.2.1 j hj]; exact fun _ h9 => h9) (v := zc G.2.2.1 ad v) (by rw [List.getElem?_map, hv]; rfl) hd ?_
  exact kk
theorem wa_putfieldN {k idx ci j N : Nat} {fs : List zV} {v : zV} {w' : List zE} {C : String} {T : u_T} {ty : Nat → FieldType} {host : String} (hC : zCl ci C T N ty) (hlink : Cond.fieldLinkNest Y.1.cls idx C (T j).2.1 (T j).2.2.1 host ∈ lw_tbl) (hd : decode Y.2.1 pc = .ok (.putfield idx, 3)) (hp : pc + 3 = pc') (hj : j < N) (hfin : (T j).2.2.2 = false) (he : w[k]? = some (zO ci fs)) (hl9 : j < fs.length) (hv : zfit (ty j) v) (hw : w.set k (zO ci (fs.set j v)) = w') (k9 : Wa Y d mc ms n0 Post pc' ls st w' nc ns) : Wa Y d mc ms n0 Post pc ls (v :: zR k :: st) w nc ns := by
  subst hw
  subst hp
  intro p l e R s m args below meth c G A ad0 Qm C9 F ad H locs lsA hag hst hl
  obtain ⟨hfl, hR, hx, hb, hml, hr, hown, hlk, hnm, htb, hT, hE, hA⟩ := id C9
  obtain ⟨hP, hD, hS⟩ := id hst
  refine va_putN (Ts := u_ws C T N) hx hb (fun w9 h9 => hT.at (hC.2.1 w9 h9).1 (hC.2.1 w9 h9).2 _) (fun _ h9 => h9) ty hC.2.2.1 hC.2.2.2.1 hown hE.1.1 hP hD hS k (zw_get he) hC.1 j hj (hT.at hlink (zgood_k _ rfl) _) (by rw [hC.2.2.2.2.1 j hj]; exact fun _ h9 => h9) hfin (v := zc G.2.2.1 ad v) (hC.2.2.1 j hj) (zfit_n hv _ _).1 (zfit_n hv _ _).2 (by rw [List.length_map]; exact hl9) hd (fun H1 locs1 hP1 hD1 hS1 => ?_)
  refine Wa.wW k9 C9 F (by rw [List.length_set]; exact hag) ?_ ⟨hP1, hD1, hS1⟩ hl
  rw [zw_set]
  simp only [ze, List.map_set]
theorem wa_alen {k t n : Nat} {f : Int → Int} (hd : decode Y.2.1 pc = .ok (.arraylength, 1)) (hp : pc + 1 = pc') (he : w[k]? = some (zA t n f)) (ht : t < 3) (k9 : Wa Y d mc ms n0 Post pc' ls (zI n :: st) w nc ns) : Wa Y d mc ms n0 Post pc ls (zR k :: st) w nc ns := by
  subst hp
  intro p l e R s m args below meth c G A ad0 Qm C9 F ad H locs lsA hag hst hl
  obtain ⟨hfl, hR, hx, hb, hml, hr, hown, hlk, hnm, htb, hT, hE, hA⟩ := id C9
  obtain ⟨hP, hD, hS⟩ := id hst
  have kk := k9 p l e R s m args below meth c G A ad0 Qm C9 F ad H locs lsA hag hst hl
  have hv : Int32.ofNat n = Int32.ofInt (n : Int) := Int32.ofInt_eq_ofNat.symm
  rcases (show t = 0 ∨ t = 1 ∨ t = 2 by omega) with rfl | rfl | rfl
  · exact va_alen hx hb hE.1.1 hP k 0 (zw_get he) (ty := .int) rfl hv hd kk
  · exact va_alen hx hb hE.1.1 hP k 1 (zw_get he) (ty := .char) rfl hv hd kk
  · exact va_alen hx hb hE.1.1 hP k 2 (zw_get he) (ty := .byte) rfl hv hd kk
theorem wa_alenQ {k n : Nat} {f : Nat → Option Nat} (hd : decode Y.2.1 pc = .ok (.arraylength, 1)) (hp : pc + 1 = pc') (he : w[k]? = some (zQ n f)) (k9 : Wa Y d mc ms n0 Post pc' ls (zI n :: st) w nc ns) : Wa Y d mc ms n0 Post pc ls (zR k :: st) w nc ns := by
  subst hp
  intro p l e R s m args below meth c G A ad0 Qm C9 F ad H locs lsA hag hst hl
  obtain ⟨hfl, hR, hx, hb, hml, hr, hown, hlk, hnm, htb, hT, hE, hA⟩ := id C9
  obtain ⟨hP, hD, hS⟩ := id hst
  have kk := k9 p l e R s m args below meth c G A ad0 Qm C9 F ad H locs lsA hag hst hl
  have hv : Int32.ofNat n = Int32.ofInt (n : Int) := Int32.ofInt_eq_ofNat.symm
  exact va_alen hx hb hE.1.1 hP k 3 (zw_get he) (ty := .object "ChordSheet$Sheet") rfl hv hd kk
theorem wa_iaload {k n : Nat} {f : Int → Int} {i : Int} (hd : decode Y.2.1 pc = .ok (.iaload, 1)) (hp : pc + 1 = pc') (he : w[k]? = some (zA 0 n f)) (h0 : 0 ≤ i) (h1 : i < n) (hn : n < 2147483648) (k9 : Wa Y d mc ms n0 Post pc' ls (zI (f i) :: st) w nc ns) : Wa Y d mc ms n0 Post pc ls (zI i :: zR k :: st) w nc ns := by
  subst hp
  intro p l e R s m args below meth c G A ad0 Qm C9 F ad H locs lsA hag hst hl
  obtain ⟨hfl, hR, hx, hb, hml, hr, hown, hlk, hnm, htb, hT, hE, hA⟩ := id C9
  obtain ⟨hP, hD, hS⟩ := id hst
  have kk := k9 p l e R s m args below meth c G A ad0 Qm C9 F ad H locs lsA hag hst hl
  refine va_iald hx hb hE.1.1 hP k 0 (zw_get he) rfl (zi_vp h0 h1 hn) hd ?_
  have e9 : ((Int32.ofInt i).toNatClampNeg : Int) = i := by rw [zi_cl ⟨by omega, by omega⟩]; omega
  simp only [e9]
  exact kk
theorem wa_caload {k n : Nat} {f : Int → Int} {i : Int} (hd : decode Y.2.1 pc = .ok (.caload, 1)) (hp : pc + 1 = pc') (he : w[k]? = some (zA 1 n f)) (h0 : 0 ≤ i) (h1 : i < n) (hn : n < 2147483648) (k9 : Wa Y d mc ms n0 Post pc' ls (zI (f i) :: st) w nc ns) : Wa Y d mc ms n0 Post pc ls (zI i :: zR k :: st) w nc ns := by
  subst hp
  intro p l e R s m args below meth c G A ad0 Qm C9 F ad H locs lsA hag hst hl
  obtain ⟨hfl, hR, hx, hb, hml, hr, hown, hlk, hnm, htb, hT, hE, hA⟩ := id C9
  obtain ⟨hP, hD, hS⟩ := id hst
  have kk := k9 p l e R s m args below meth c G A ad0 Qm C9 F ad H locs lsA hag hst hl
  refine va_cald hx hb hE.1.1 hP k 1 (zw_get he) rfl (zi_vp h0 h1 hn) hd ?_
  have e9 : ((Int32.ofInt i).toNatClampNeg : Int) = i := by rw [zi_cl ⟨by omega, by omega⟩]; omega
  simp only [e9]
  exact kk
theorem wa_iastore {k n : Nat} {f : Int → Int} {i x : Int} {w' : List zE} (hd : decode Y.2.1 pc = .ok (.iastore, 1)) (hp : pc + 1 = pc') (he : w[k]? = some (zA 0 n f)) (h0 : 0 ≤ i) (h1 : i < n) (hn : n < 2147483648) (hw : w.set k (zA 0 n (zup f i x)) = w') (k9 : Wa Y d mc ms n0 Post pc' ls st w' nc ns) : Wa Y d mc ms n0 Post pc ls (zI x :: zI i :: zR k :: st) w nc ns := by
  subst hw
  subst hp
  intro p l e R s m args below meth c G A ad0 Qm C9 F ad H locs lsA hag hst hl
  obtain ⟨hfl, hR, hx, hb, hml, hr, hown, hlk, hnm, htb, hT, hE, hA⟩ := id C9
  obtain ⟨hP, hD, hS⟩ := id hst
  refine va_iast hx hb hE.1.1 hP hD hS k 0 (zw_get he) rfl (zi_vp h0 h1 hn) hd (fun H1 locs1 hP1 hD1 hS1 => ?_)
  refine Wa.wW k9 C9 F (by rw [List.length_set]; exact hag) ?_ ⟨hP1, hD1, hS1⟩ hl
  rw [zw_set, zi_cl ⟨by omega, by omega⟩, zup_f f x h0]
  rfl
theorem zi_nar {x : Int} (h0 : 0 ≤ x) (h1 : x < 65536) : vp_nar .char (Int32.ofInt x) = Int32.ofInt x := by
  have hx : Int32.ofInt x = nI x.toNat := by rw [nI, ← Int32.ofInt_eq_ofNat, Int.toNat_of_nonneg h0]
  have := (pk_charN (q := x.toNat) (by omega)).1
  rw [hx, vp_nar, this]
theorem wa_castore {k n : Nat} {f : Int → Int} {i x : Int} {w' : List zE} (hd : decode Y.2.1 pc = .ok (.castore, 1)) (hp : pc + 1 = pc') (he : w[k]? = some (zA 1 n f)) (h0 : 0 ≤ i) (h1 : i < n) (hn : n < 2147483648) (hx0 : 0 ≤ x) (hx1 : x < 65536) (hw : w.set k (zA 1 n (zup f i x)) = w') (k9 : Wa Y d mc ms n0 Post pc' ls st w' nc ns) : Wa Y d mc ms n0 Post pc ls (zI x :: zI i :: zR k :: st) w nc ns := by
  subst hw
  subst hp
  intro p l e R s m args below meth c G A ad0 Qm C9 F ad H locs lsA hag hst hl
  obtain ⟨hfl, hR, hx, hb, hml, hr, hown, hlk, hnm, htb, hT, hE, hA⟩ := id C9
  obtain ⟨hP, hD, hS⟩ := id hst
  refine va_cast hx hb hE.1.1 hP hD hS k 1 (zw_get he) rfl (zi_vp h0 h1 hn) hd (fun H1 locs1 hP1 hD1 hS1 => ?_)
  refine Wa.wW k9 C9 F (by rw [List.length_set]; exact hag) ?_ ⟨hP1, hD1, hS1⟩ hl
  rw [zw_set, zi_nar hx0 hx1, zi_cl ⟨by omega, by omega⟩, zup_f f x h0]
  rfl
theorem wa_aaload {k n : Nat} {f : Nat → Option Nat} {i : Int} (hd : decode Y.2.1 pc = .ok (.aaload, 1)) (hp : pc + 1 = pc') (he : w[k]? = some (zQ n f)) (h0 : 0 ≤ i) (h1 : i < n) (hn : n < 2147483648) (k9 : Wa Y d mc ms n0 Post pc' ls (.inr (.inr ((f i.toNat).map .inl)) :: st) w nc ns) : Wa Y d mc ms n0 Post pc ls (zI i :: zR k :: st) w nc ns := by
  subst hp
  intro p l e R s m args below meth c G A ad0 Qm C9 F ad H locs lsA hag hst hl
  obtain ⟨hfl, hR, hx, hb, hml, hr, hown, hlk, hnm, htb, hT, hE, hA⟩ := id C9
  obtain ⟨hP, hD, hS⟩ := id hst
  have kk := k9 p l e R s m args below meth c G A ad0 Qm C9 F ad H locs lsA hag hst hl
  refine va_aldq hx hb hE.1.1 hP k 3 (zw_get he) rfl (zi_vp h0 h1 hn) hd ?_
  rw [zi_cl ⟨by omega, by omega⟩]
  have e9 : va_rf ((f i.toNat).map ad) = zc G.2.2.1 ad (.inr (.inr ((f i.toNat).map .inl))) := by cases f i.toNat <;> rfl
  show W p l e R s m args below meth c H locs nc ns Qm (F0 m (pc + 1) lsA (va_rf ((f i.toNat).map ad) :: st.map (zc G.2.2.1 ad)))
  rw [e9]
  exact kk
/-- constants -/
theorem wa_kget {q o n d9 : String} {k idx : Nat} {v : zV} (hOF : ∀ (G : zG) (A : Nat → Prop) (s : State) (H : Heap) (ad : Nat → Nat), zEnv G A s H → va_OF o n d9 (zc G.2.2.1 ad v) (G.2.2.1 k) A s H) (hlink : Cond.fieldLink Y.1.cls idx o n d9 ∈ lw_tbl) (hd : decode Y.2.1 pc = .ok (.getfield idx, 3)) (hp : pc + 3 = pc') (k9 : Wa Y d mc ms n0 Post pc' ls (v :: st) w nc ns) : Wa Y d mc ms n0 Post pc ls (zK k :: st) w nc ns := by
  subst hp
  intro p l e R s m args below meth c G A ad0 Qm C9 F ad H locs lsA hag hst hl
  obtain ⟨hfl, hR, hx, hb, hml, hr, hown, hlk, hnm, htb, hT, hE, hA⟩ := id C9
  obtain ⟨hP, hD, hS⟩ := id hst
  have kk := k9 p l e R s m args below meth c G A ad0 Qm C9 F ad H locs lsA hag hst hl
  exact vk_getf hx hb (hOF G A s s.heap ad hE) hS hown (hT.at hlink (zgood_c _ rfl) _) (fun _ h9 => h9) hd kk
theorem wa_kgetN {q o n d9 host : String} {k idx : Nat} {v : zV} (hOF : ∀ (G : zG) (A : Nat → Prop) (s : State) (H : Heap) (ad : Nat → Nat), zEnv G A s H → va_OF o n d9 (zc G.2.2.1 ad v) (G.2.2.1 k) A s H) (hlink : Cond.fieldLinkNest Y.1.cls idx o n d9 host ∈ lw_tbl) (hd : decode Y.2.1 pc = .ok (.getfield idx, 3)) (hp : pc + 3 = pc') (k9 : Wa Y d mc ms n0 Post pc' ls (v :: st) w nc ns) : Wa Y d mc ms n0 Post pc ls (zK k :: st) w nc ns := by
  subst hp
  intro p l e R s m args below meth c G A ad0 Qm C9 F ad H locs lsA hag hst hl
  obtain ⟨hfl, hR, hx, hb, hml, hr, hown, hlk, hnm, htb, hT, hE, hA⟩ := id C9
  obtain ⟨hP, hD, hS⟩ := id hst
  have kk := k9 p l e R s m args below meth c G A ad0 Qm C9 F ad H locs lsA hag hst hl
  obtain ⟨cf, k', fi, f, cell, h1, h2, h3, h4, h5, h6⟩ := (hOF G A s s.heap ad hE).kept hS.2.1
  exact va_Wgetf hx hb hown (hT.at hlink (zgood_k _ rfl) _) h1 h2 h3 h4 (v := zc G.2.2.1 ad v) h5 rfl rfl hd kk
theorem wa_kgets {C n d9 : String} {k idx : Nat} (hZ : ∀ (G : zG) (A : Nat → Prop) (s : State) (H : Heap), zEnv G A s H → va_Z C n d9 (.ref (G.2.2.1 k)) A s H) (hlink : Cond.fieldLink Y.1.cls idx C n d9 ∈ lw_tbl) (hd : decode Y.2.1 pc = .ok (.getstatic idx, 3)) (hp : pc + 3 = pc') (k9 : Wa Y d mc ms n0 Post pc' ls (zK k :: st) w nc ns) : Wa Y d mc ms n0 Post pc ls st w nc ns := by
  subst hp
  intro p l e R s m args below meth c G A ad0 Qm C9 F ad H locs lsA hag hst hl
  obtain ⟨hfl, hR, hx, hb, hml, hr, hown, hlk, hnm, htb, hT, hE, hA⟩ := id C9
  obtain ⟨hP, hD, hS⟩ := id hst
  have kk := k9 p l e R s m args below meth c G A ad0 Qm C9 F ad H locs lsA hag hst hl
  exact va_gets hx hb (hZ G A s s.heap hE) hS hown (hT.at hlink (zgood_c _ rfl) _) (fun _ h9 => h9) hd kk
theorem wa_kgetsI {C n d9 : String} {x : Int} {idx : Nat} (hZ : ∀ (G : zG) (A : Nat → Prop) (s : State) (H : Heap), zEnv G A s H → va_Z C n d9 (.int (Int32.ofInt x)) A s H) (hlink : Cond.fieldLink Y.1.cls idx C n d9 ∈ lw_tbl) (hd : decode Y.2.1 pc = .ok (.getstatic idx, 3)) (hp : pc + 3 = pc') (k9 : Wa Y d mc ms n0 Post pc' ls (zI x :: st) w nc ns) : Wa Y d mc ms n0 Post pc ls st w nc ns := by
  subst hp
  intro p l e R s m args below meth c G A ad0 Qm C9 F ad H locs lsA hag hst hl
  obtain ⟨hfl, hR, hx, hb, hml, hr, hown, hlk, hnm, htb, hT, hE, hA⟩ := id C9
  obtain ⟨hP, hD, hS⟩ := id hst
  have kk := k9 p l e R s m args below meth c G A ad0 Qm C9 F ad H locs lsA hag hst hl
  exact va_gets hx hb (hZ G A s s.heap hE) hS hown (hT.at hlink (zgood_c _ rfl) _) (fun _ h9 => h9) hd kk
theorem wa_klen {k N : Nat} {ty : FieldType} {f : zG → Nat → Value} (hTb : ∀ (G : zG) (A : Nat → Prop) (s : State) (H : Heap), zEnv G A s H → va_T ty (G.2.2.1 k) N (f G) A s H) (hd : decode Y.2.1 pc = .ok (.arraylength, 1)) (hp : pc + 1 = pc') (k9 : Wa Y d mc ms n0 Post pc' ls (zI N :: st) w nc ns) : Wa Y d mc ms n0 Post pc ls (zK k :: st) w nc ns := by
  subst hp
  intro p l e R s m args below meth c G A ad0 Qm C9 F ad H locs lsA hag hst hl
  obtain ⟨hfl, hR, hx, hb, hml, hr, hown, hlk, hnm, htb, hT, hE, hA⟩ := id C9
  obtain ⟨hP, hD, hS⟩ := id hst
  have kk := k9 p l e R s m args below meth c G A ad0 Qm C9 F ad H locs lsA hag hst hl
  exact va_tlen hx hb (hTb G A s s.heap hE) hS Int32.ofInt_eq_ofNat.symm hd kk
theorem wa_kaaload {i : Int} (hd : decode Y.2.1 pc = .ok (.aaload, 1)) (hp : pc + 1 = pc') (h0 : 0 ≤ i) (h1 : i < 10) (k9 : Wa Y d mc ms n0 Post pc' ls (zK i.toNat :: st) w nc ns) : Wa Y d mc ms n0 Post pc ls (zI i :: zK 10 :: st) w nc ns := by
  subst hp
  intro p l e R s m args below meth c G A ad0 Qm C9 F ad H locs lsA hag hst hl
  obtain ⟨hfl, hR, hx, hb, hml, hr, hown, hlk, hnm, htb, hT, hE, hA⟩ := id C9
  obtain ⟨hP, hD, hS⟩ := id hst
  have kk := k9 p l e R s m args below meth c G A ad0 Qm C9 F ad H locs lsA hag hst hl
  refine vb_tq hx hb hE.2.2.2.1.1 hS (zi_vp h0 h1 (by decide)) (v := .ref (G.2.2.1 i.toNat)) ?_ hd kk
  rw [zi_cl ⟨by omega, by omega⟩]
theorem wa_kbaload {q : Nat} {i : Int} (hq : q < 11) (hd : decode Y.2.1 pc = .ok (.baload, 1)) (hp : pc + 1 = pc') (h0 : 0 ≤ i) (h1 : i < (zBytes.getD q []).length) (k9 : Wa Y d mc ms n0 Post pc' ls (zI ((zBytes.getD q []).getD i.toNat 0) :: st) w nc ns) : Wa Y d mc ms n0 Post pc ls (zI i :: zK (30 + q) :: st) w nc ns := by
  subst hp
  intro p l e R s m args below meth c G A ad0 Qm C9 F ad H locs lsA hag hst hl
  obtain ⟨hfl, hR, hx, hb, hml, hr, hown, hlk, hnm, htb, hT, hE, hA⟩ := id C9
  obtain ⟨hP, hD, hS⟩ := id hst
  have kk := k9 p l e R s m args below meth c G A ad0 Qm C9 F ad H locs lsA hag hst hl
  have hN : (zBytes.getD q []).length < 2147483648 := by
    rcases (show q = 0 ∨ q = 1 ∨ q = 2 ∨ q = 3 ∨ q = 4 ∨ q = 5 ∨ q = 6 ∨ q = 7 ∨ q = 8 ∨ q = 9 ∨ q = 10 by omega) with h | h | h | h | h | h | h | h | h | h | h <;> (subst h; decide)
  refine va_tb hx hb (hE.2.2.2.2.2.2.1 q hq).2.2.2 hS (zi_vp h0 h1 hN) (v := .int (Int32.ofInt ((zBytes.getD q []).getD i.toNat 0))) ?_ hd kk
  rw [zi_cl ⟨by omega, by omega⟩]
theorem wa_ret {v : Option zV} (hpost : Post (.inl v) w) (hr : zRet Y pc v) (hc : nc ≤ mc) (hs : ns ≤ ms) {st : List zV} (hst : v.toList = st) : Wa Y d mc ms n0 Post pc ls st w nc ns := by
  subst hst
  intro p l e R s m args below meth c G A ad0 Qm C9 F ad H locs lsA hag hst hl
  exact F.1 v w ad H locs lsA pc nc ns hpost hr hc hs hag.1 hag.2 hst
theorem W.monoQ {p : Program} {l : Launch} {e : Env} {R : Room} {s : State} {m : MethodId} {args : Array Value} {below : List Frame} {meth : Method} {c : Code} {H : Heap} {locs : List Loc} {cells slots : Nat} {Q Q' : State → Prop} {g : JFrame} (k : W p l e R s m args below meth c H locs cells slots Q g) (h : ∀ t, Q t → Q' t) : W p l e R s m args below meth c H locs cells slots Q' g := fun T hT X => (k T hT X).elim fun t a => ⟨t, a.1, h t a.2⟩
theorem zflags {l : Launch} (h : l.flags = flags0) : l.stackTraces = false := by
  unfold Launch.stackTraces
  rw [h]
  decide +kernel
def zXs (own : String) (ik ic : Nat) (cls : String) : Prop := Bundle.fit cls = true ∧ (∀ n ∈ ["java/lang/RuntimeException", "java/lang/Exception"], Bundle.fit n = true) ∧ Cond.classLink own ik cls ∈ lw_tbl ∧ Cond.initialized cls ∈ lw_tbl ∧ (∀ w ∈ vx_atS own ic cls ["java/lang/RuntimeException", "java/lang/Exception"], w ∈ lw_tbl ∧ (goodWord w || zt_k w) = true) ∧ ∀ w ∈ Cond.classLink own ik cls :: Cond.initialized cls :: vx_atS own ic cls ["java/lang/RuntimeException", "java/lang/Exception"], vx_ot w = true
theorem zthrow_end {E : String} {s : State} {G : zG} {A : Nat → Prop} {ad0 ad : Nat → Nat} {H : Heap} {locs : List Loc} (hpost : Post (.inr E) w) (hag : n0 ≤ w.length ∧ zAg n0 w.length ad ad0) (hP : va_P G.1 vwCl (zw G ad w) H) (hD : va_D A (zw G ad w)) (hS : va_S A s.heap H locs) :
    ∀ t : State, s.vm.Alike t.vm → H.size ≤ t.heap.size → (∀ q : Nat, q < H.size → t.heap[q]? = H[q]?) → zXC G A ad0 n0 Post E s t := by
  intro t _ h1 h2
  refine ⟨⟨w, ad, hpost, hag.1, hag.2, hP.kept (fun k q hq => h2 q.1 (hP k q hq).lt), hD⟩, Nat.le_trans hS.1 h1, fun q hq hn => ?_⟩
  rw [h2 q (Nat.lt_of_lt_of_le hq hS.1)]
  exact hS.2.1 q hq hn
theorem wa_throwS {cls text : String} {ik is ic : Nat} (hX : zXs Y.1.cls ik ic cls) (hm : (Y.1.cls, is, text) ∈ zMsgs) (d0 : decode Y.2.1 pc = .ok (.new ik, 3)) (d3 : decode Y.2.1 (pc + 3) = .ok (.dup, 1)) (d4 : decode Y.2.1 (pc + 4) = .ok (.ldc is, 2)) (d6 : decode Y.2.1 (pc + 6) = .ok (.invokespecial ic, 3)) (d9 : decode Y.2.1 (pc + 9) = .ok (.athrow, 1)) (hh : Y.2.2.2.2 = []) (hd7 : 7 ≤ d) (hcat : (st.map zcat).sum ≤ 8) (hc : nc + 1 ≤ mc) (hs : ns + 6 ≤ ms) (hpost : Post (.inr cls) w) : Wa Y d mc ms n0 Post pc ls st w nc ns := by
  intro p l e R s m args below meth c G A ad0 Qm C9 F ad H locs lsA hag hst hl
  obtain ⟨hfl, hR, hx, hb, hml, hr, hown, hlk, hnm, htb, hT, hE, hA⟩ := id C9
  obtain ⟨hP, hD, hS⟩ := id hst
  obtain ⟨x1, x2, x3, x4, x5, x6⟩ := hX
  obtain ⟨sa, hsa⟩ := hE.2.2.2.2.2.2.2.1.2 _ hm
  have hcat' : ((st.map (zc G.2.2.1 ad)).map fun v => v.category).sum ≤ 8 := by
    rw [List.map_map]
    have : ((fun v : Value => v.category) ∘ zc G.2.2.1 ad) = zcat := by funext v; exact zcat_c _ _ v
    rw [this]; exact hcat
  refine W.monoQ (vx_throwS (Qc := fun _ _ _ _ => False) (XC := zXC G A ad0 n0 Post) (mc := mc) (ms := ms) (free := A) (names := ["java/lang/RuntimeException", "java/lang/Exception"]) hx hb (zflags hfl) hown x1 x2 (hT.at x3 (zgood_c _ rfl) _) (hT.at x4 (zgood_c _ rfl) _) hsa (fun w9 h9 => hT.at (x5 w9 h9).1 (x5 w9 h9).2 _) x6 hE.2.1.1 hE.2.1.2 hS (hl.1.trans hml.symm) d0 d3 d4 d6 d9 (by rw [htb, hh]; intro x hx; cases hx) (by show 2 + 3 < R.frames; omega) (by show _ + (13 * (2 + 1) + 43) ≤ R.locals; omega) (by omega) (by omega) hlk (zthrow_end hpost hag hP hD hS) hS.2.2 hc hs) F.2
theorem wa_throwSW {cls text : String} {ik is ic : Nat} (hX : zXs Y.1.cls ik ic cls) (hm : (Y.1.cls, is, text) ∈ zMsgs) (d0 : decode Y.2.1 pc = .ok (.new ik, 3)) (d3 : decode Y.2.1 (pc + 3) = .ok (.dup, 1)) (d4 : decode Y.2.1 (pc + 4) = .ok (.ldc_w is, 3)) (d6 : decode Y.2.1 (pc + 7) = .ok (.invokespecial ic, 3)) (d9 : decode Y.2.1 (pc + 10) = .ok (.athrow, 1)) (hh : Y.2.2.2.2 = []) (hd7 : 7 ≤ d) (hcat : (st.map zcat).sum ≤ 8) (hc : nc + 1 ≤ mc) (hs : ns + 6 ≤ ms) (hpost : Post (.inr cls) w) : Wa Y d mc ms n0 Post pc ls st w nc ns := by
  intro p l e R s m args below meth c G A ad0 Qm C9 F ad H locs lsA hag hst hl
  obtain ⟨hfl, hR, hx, hb, hml, hr, hown, hlk, hnm, htb, hT, hE, hA⟩ := id C9
  obtain ⟨hP, hD, hS⟩ := id hst
  obtain ⟨x1, x2, x3, x4, x5, x6⟩ := hX
  obtain ⟨sa, hsa⟩ := hE.2.2.2.2.2.2.2.1.2 _ hm
  have hcat' : ((st.map (zc G.2.2.1 ad)).map fun v => v.category).sum ≤ 8 := by
    rw [List.map_map]
    have : ((fun v : Value => v.category) ∘ zc G.2.2.1 ad) = zcat := by funext v; exact zcat_c _ _ v
    rw [this]; exact hcat
  refine W.monoQ (vx_throwSW (Qc := fun _ _ _ _ => False) (XC := zXC G A ad0 n0 Post) (mc := mc) (ms := ms) (free := A) (names := ["java/lang/RuntimeException", "java/lang/Exception"]) hx hb (zflags hfl) hown x1 x2 (hT.at x3 (zgood_c _ rfl) _) (hT.at x4 (zgood_c _ rfl) _) hsa (fun w9 h9 => hT.at (x5 w9 h9).1 (x5 w9 h9).2 _) x6 hE.2.1.1 hE.2.1.2 hS (hl.1.trans hml.symm) d0 d3 d4 d6 d9 (by rw [htb, hh]; intro x hx; cases hx) (by show 2 + 3 < R.frames; omega) (by show _ + (13 * (2 + 1) + 43) ≤ R.locals; omega) (by omega) (by omega) hlk (zthrow_end hpost hag hP hD hS) hS.2.2 hc hs) F.2
end ZX
