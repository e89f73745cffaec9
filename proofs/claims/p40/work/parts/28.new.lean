/-! THE LAYER: new cells -/
def zokv (n : Nat) (v : zV) : Bool := match v with
  | .inr (.inr (some (.inl k))) => Nat.blt k n
  | _ => true
def zoke (n : Nat) (e : zE) : Prop := match e with
  | .inl _ => True
  | .inr (.inl (_, f)) => ∀ j k, f j = some k → k < n
  | .inr (.inr (_, fs)) => fs.all (zokv n) = true
def zokw (n : Nat) : List zE → Prop
  | [] => True
  | e :: w => zoke n e ∧ zokw n w
theorem zokw_at {n : Nat} : ∀ {w : List zE} {k : Nat} {e : zE}, zokw n w → w[k]? = some e → zoke n e
  | [], _, _, _, h => by simp at h
  | x :: w, 0, e, h, hk => by
    rw [List.getElem?_cons_zero] at hk
    cases hk
    exact h.1
  | x :: w, k + 1, e, h, hk => by
    rw [List.getElem?_cons_succ] at hk
    exact zokw_at h.2 hk
theorem zokv_lt {n k : Nat} (h : zokv n (zR k) = true) : k < n := Nat.le_of_ble_eq_true h
theorem zc_ag {n : Nat} {ac ad ad1 : Nat → Nat} (ha : ∀ k, k < n → ad1 k = ad k) {v : zV} (h : zokv n v = true) : zc ac ad1 v = zc ac ad v := by
  rcases v with x | x | _ | k | k
  · rfl
  · rfl
  · rfl
  · show Value.ref (ad1 k) = Value.ref (ad k)
    rw [ha k (zokv_lt h)]
  · rfl
theorem zcs_ag {n : Nat} {ac ad ad1 : Nat → Nat} (ha : ∀ k, k < n → ad1 k = ad k) {l : List zV} (h : l.all (zokv n) = true) : l.map (zc ac ad1) = l.map (zc ac ad) := by
  apply List.map_congr_left
  intro v hv
  exact zc_ag ha (List.all_eq_true.mp h v hv)
theorem zls_ag {n : Nat} {ac ad ad1 : Nat → Nat} (ha : ∀ k, k < n → ad1 k = ad k) {l : List (Nat × zV)} (h : l.all (fun q => zokv n q.2) = true) : zls ac ad1 l = zls ac ad l := by
  unfold zls
  apply List.map_congr_left
  intro q hq
  show (q.1, zc ac ad1 q.2) = (q.1, zc ac ad q.2)
  rw [zc_ag ha (List.all_eq_true.mp h q hq)]
theorem ze_ag {n : Nat} {G : zG} {ad ad1 : Nat → Nat} (ha : ∀ k, k < n → ad1 k = ad k) {e : zE} (h : zoke n e) : ze G ad1 e = ze G ad e := by
  rcases e with a | ⟨m, f⟩ | ⟨c, fs⟩
  · rfl
  · have e1 : (fun j => (f j).map ad1) = fun j => (f j).map ad := by
      funext j
      cases hf : f j with
      | none => rfl
      | some k =>
        show some (ad1 k) = some (ad k)
        rw [ha k (h j k hf)]
    show Sum.inl _ = Sum.inl _
    rw [e1]
  · show Sum.inr (c, fs.map (zc G.2.2.1 ad1)) = Sum.inr (c, fs.map (zc G.2.2.1 ad))
    rw [zcs_ag ha h]
theorem zw_push {G : zG} {ad ad1 : Nat → Nat} {w : List zE} (e : zE) (hw : zokw w.length w) (ha : ∀ k, k < w.length → ad1 k = ad k) : zw G ad1 (w ++ [e]) = zw G ad w ++ [(ad1 w.length, ze G ad1 e)] := by
  apply List.ext_getElem?
  intro i
  rw [zw_at]
  by_cases hi : i < w.length
  · rw [List.getElem?_append_left hi, List.getElem?_append_left (by rw [zw_len]; exact hi), zw_at]
    have h1 := List.getElem?_eq_getElem hi
    rw [h1]
    show some (ad1 i, ze G ad1 _) = some (ad i, ze G ad _)
    rw [ha i hi, ze_ag ha (zokw_at hw h1)]
  · rw [List.getElem?_append_right (by omega), List.getElem?_append_right (by rw [zw_len]; omega), zw_len]
    by_cases h2 : i = w.length
    · subst h2
      rw [Nat.sub_self]
      rfl
    · have h3 : i - w.length = (i - w.length - 1) + 1 := by omega
      rw [h3]
      rfl
def zpu (ad : Nat → Nat) (n q : Nat) : Nat → Nat := fun k => if k = n then q else ad k
theorem zpu_same (ad : Nat → Nat) (n q : Nat) : zpu ad n q n = q := if_pos rfl
theorem zpu_lt (ad : Nat → Nat) (n q : Nat) : ∀ k, k < n → zpu ad n q k = ad k := fun k h => if_neg (by omega)
theorem zpu_ag {n0 n q : Nat} {ad ad0 : Nat → Nat} (h : n0 ≤ n ∧ zAg n0 n ad ad0) : zAg n0 (n + 1) (zpu ad n q) ad0 := by
  intro k hk
  unfold zpu
  rw [if_neg (by omega)]
  exact h.2 k (by omega)
section ZNEW
variable {Y : zY} {d mc ms n0 : Nat} {Post : zP → List zE → Prop} {pc pc' : Nat} {ls : List (Nat × zV)} {st : List zV} {w w' : List zE} {nc ns nc' ns' : Nat}
/-- go on in the world with one cell more -/
theorem Wa.wN {p : Program} {l : Launch} {e : Env} {R : Room} {s : State} {m : MethodId} {args : Array Value} {below : List Frame} {meth : Method} {c : Code} {G : zG} {A : Nat → Prop} {ad0 : Nat → Nat} {Qm : State → Prop} (e9 : zE) (k : Wa Y d mc ms n0 Post pc ls (zR w.length :: st) (w ++ [e9]) nc ns)
    (C : zCx Y d mc ms p l R s m meth c G A) (F : zFin Y mc ms n0 Post p l e R s m args below meth c G A ad0 Qm) {ad : Nat → Nat} {H : Heap} {locs : List Loc} {lsA : Array Slot} (hag : n0 ≤ w.length ∧ zAg n0 w.length ad ad0) (hw : zokw w.length w) (hls : ls.all (fun q => zokv w.length q.2) = true) (hst : st.all (zokv w.length) = true) {q : Nat} {x : va_E} (hx : ze G (zpu ad w.length q) e9 = x) (h : va_P G.1 vwCl (zw G ad w ++ [(q, x)]) H ∧ va_D A (zw G ad w ++ [(q, x)]) ∧ va_S A s.heap H locs) (hl : lv_has lsA Y.2.2.1 (zls G.2.2.1 ad ls)) :
    W p l e R s m args below meth c H locs nc ns Qm (F0 m pc lsA (.ref q :: st.map (zc G.2.2.1 ad))) := by
  have e1 := zw_push (G := G) (ad := ad) (ad1 := zpu ad w.length q) e9 hw (zpu_lt _ _ _)
  rw [zpu_same, hx] at e1
  rw [← e1] at h
  have kk := k p l e R s m args below meth c G A ad0 Qm C F (zpu ad w.length q) H locs lsA (by rw [List.length_append]; exact ⟨by show n0 ≤ w.length + 1; omega, zpu_ag hag⟩) h (by rw [zls_ag (zpu_lt _ _ _) hls]; exact hl)
  rw [List.map_cons, zcs_ag (zpu_lt _ _ _) hst] at kk
  have e2 : zc G.2.2.1 (zpu ad w.length q) (zR w.length) = .ref q := congrArg Value.ref (zpu_same _ _ _)
  rw [e2] at kk
  exact kk
theorem wa_newarr {t n : Nat} {x : Int} {at9 : ArrayType} (ht : (t = 0 ∧ at9 = .int) ∨ (t = 1 ∧ at9 = .char)) (harr : Cond.arrayClass (newarray.typeOf at9) ∈ lw_tbl) (hgood : goodWord (Cond.arrayClass (newarray.typeOf at9)) = true) (hd : decode Y.2.1 pc = .ok (.newarray at9, 2)) (hp : pc + 2 = pc') (hn : x = n) (hn9 : n ≤ 100000) (hw : zokw w.length w) (hls : ls.all (fun q => zokv w.length q.2) = true) (hst : st.all (zokv w.length) = true) (hnc : nc + 1 = nc') (hns : ns + n = ns') (hmc : nc' ≤ mc) (hms : ns' ≤ ms) (hw' : w ++ [zA t n (fun _ => 0)] = w')
    (k : Wa Y d mc ms n0 Post pc' ls (zR w.length :: st) w' nc' ns') : Wa Y d mc ms n0 Post pc ls (zI x :: st) w nc ns := by
  subst hw'
  subst hnc
  subst hns
  subst hp
  subst hn
  intro p l e R s m args below meth c G A ad0 Qm C9 F ad H locs lsA hag hst9 hl
  obtain ⟨hfl, hR, hx, hb, hml, hr, hown, hlk, hnm, htb, hT, hE, hA⟩ := id C9
  obtain ⟨hP, hD, hS⟩ := id hst9
  have hz : zin (n : Int) := ⟨by omega, by omega⟩
  have hn0 : ¬ (Int32.ofInt (n : Int)) < 0 := by
    rw [← zi_0, zi_lt hz (by decide)]
    omega
  have hN : (Int32.ofInt (n : Int)).toNatClampNeg = n := by rw [zi_cl hz]; rfl
  rcases ht with ⟨rfl, rfl⟩ | ⟨rfl, rfl⟩
  · refine va_newa (ty := .int) (tys := zTys G) (a0 := (n, .inl fun _ => Int32.ofInt 0)) hx hb (hT.at harr (zgood_c _ hgood) _) rfl hE.1.1 hP hD hS hA (fun cA => rfl) hn0 hN (by show n * 4 ≤ _; omega) (by omega) (by omega) hd (fun q cA H1 hK1 hP1 hD1 hS1 => ?_)
    have hc : G.2.1 0 = cA := by
      have h1 := (hE.1.1.2 0 _ rfl).2
      have h2 := (hK1.2 4 (cA, .int) rfl).2
      exact Option.some.inj ((show s.vm.findClass _ = some (G.2.1 0) from h1).symm.trans h2)
    subst hc
    exact Wa.wN (zA 0 n (fun _ => 0)) k C9 F hag hw hls hst rfl ⟨hP1, hD1, hS1⟩ hl
  · refine va_newa (ty := .char) (tys := zTys G) (a0 := (n, .inl fun _ => Int32.ofInt 0)) hx hb (hT.at harr (zgood_c _ hgood) _) rfl hE.1.1 hP hD hS hA (fun cA => rfl) hn0 hN (by show n * 2 ≤ _; omega) (by omega) (by omega) hd (fun q cA H1 hK1 hP1 hD1 hS1 => ?_)
    have hc : G.2.1 1 = cA := by
      have h1 := (hE.1.1.2 1 _ rfl).2
      have h2 := (hK1.2 4 (cA, .char) rfl).2
      exact Option.some.inj ((show s.vm.findClass _ = some (G.2.1 1) from h1).symm.trans h2)
    subst hc
    exact Wa.wN (zA 1 n (fun _ => 0)) k C9 F hag hw hls hst rfl ⟨hP1, hD1, hS1⟩ hl
/-- the value that a field is born with -/
def zborn (t : FieldType) : zV := match t with
  | .long => zJ 0
  | .object _ => zN
  | .array _ => zN
  | _ => zI 0
theorem wa_new {idx ci N : Nat} {C : String} {T : u_T} {ty : Nat → FieldType} {fs : List zV} (hC : zCl ci C T N ty) (hlink : Cond.classLink Y.1.cls idx C ∈ lw_tbl) (hd : decode Y.2.1 pc = .ok (.new idx, 3)) (hp : pc + 3 = pc') (hfs : ∀ ac ad, ∀ j, j < N → defaultValue (ty j) = vp_V (fs.map (zc ac ad)) j) (hfr : fs.all (zokv 0) = true) (hw : zokw w.length w) (hls : ls.all (fun q => zokv w.length q.2) = true) (hst : st.all (zokv w.length) = true) (hnc : nc + 1 = nc') (hns : ns + N = ns') (hmc : nc' ≤ mc) (hms : ns' ≤ ms) (hw' : w ++ [zO ci fs] = w')
    (k : Wa Y d mc ms n0 Post pc' ls (zR w.length :: st) w' nc' ns') : Wa Y d mc ms n0 Post pc ls st w nc ns := by
  subst hw'
  subst hnc
  subst hns
  subst hp
  intro p l e R s m args below meth c G A ad0 Qm C9 F ad H locs lsA hag hst9 hl
  obtain ⟨hfl, hR, hx, hb, hml, hr, hown, hlk, hnm, htb, hT, hE, hA⟩ := id C9
  obtain ⟨hP, hD, hS⟩ := id hst9
  refine va_new (Ts := u_ws C T N) hx hb (fun w9 h9 => hT.at (hC.2.1 w9 h9).1 (hC.2.1 w9 h9).2 _) (fun _ h9 => h9) ty hC.2.2.1 hown (hT.at hlink (zgood_c _ rfl) _) (hT.at hC.2.2.2.2.2.1 (zgood_c _ rfl) _) (hT.at hC.2.2.2.2.2.2 (zgood_c _ rfl) _) hE.1.1 hP hD hS hA hC.1 (fs := fs.map (zc G.2.2.1 ad)) (hfs _ _) (by omega) (by omega) hd (fun q H1 hP1 hD1 hS1 => ?_)
  refine Wa.wN (zO ci fs) k C9 F hag hw hls hst ?_ ⟨hP1, hD1, hS1⟩ hl
  show Sum.inr (ci, fs.map (zc G.2.2.1 (zpu ad w.length q))) = _
  rw [zcs_ag (n := 0) (fun k h => absurd h (Nat.not_lt_zero k)) hfr]
end ZNEW
