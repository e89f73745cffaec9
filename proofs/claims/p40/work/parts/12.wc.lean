/-! THE LAYER, 3: contracts and calls -/
def zwd (Y : zY) : Cond := match Y.2.2.2.2 with
  | [] => .code Y.1 Y.2.1 Y.2.2.1 Y.2.2.2.1
  | h :: t => .codeWith Y.1 Y.2.1 Y.2.2.1 Y.2.2.2.1 (h :: t)
def zPc (G : zG) (ad : Nat → Nat) (sz : Nat) (as : List zV) (w : List zE) : Array Value → State → Prop :=
  va_Pc (as.map (zc G.2.2.1 ad)) (fun U => U.heap.size = sz ∧ va_P G.1 vwCl (zw G ad w) U.heap ∧ va_D (fun _ => True) (zw G ad w) ∧ zEnv G (va_A (zw G ad w) sz) U U.heap ∧ zTab U)
def zQc (G : zG) (ad : Nat → Nat) (sz : Nat) (w : List zE) (Post : zP → List zE → Prop) : Array Value → State → Outcome → State → Prop := fun _ st o t =>
  (∃ (v : Option zV) (w' : List zE) (ad' : Nat → Nat), o = .returned (v.map (zc G.2.2.1 ad')) ∧ Post (.inl v) w' ∧ w.length ≤ w'.length ∧ zAg w.length w'.length ad' ad ∧ va_P G.1 vwCl (zw G ad' w') t.heap ∧ va_D (va_A (zw G ad w) sz) (zw G ad' w')) ∧ va_F (va_A (zw G ad w) sz) st t
abbrev zRm (d mc ms : Nat) : Room := { frames := d, cells := mc, slots := ms, locals := 34 * d }
/-- the contract of a method, called with these arguments in this world -/
def zMet (Y : zY) (d mc ms : Nat) (as : List zV) (w : List zE) (Post : zP → List zE → Prop) : Prop :=
  ∀ (l : Launch) (G : zG) (ad : Nat → Nat) (sz : Nat), l.flags = flags0 → vx_Met l Y.1 [zwd Y] (zRm d mc ms) (zPc G ad sz as w) (zQc G ad sz w Post) (zXC G (va_A (zw G ad w) sz) ad w.length Post) mc ms (va_A (zw G ad w) sz)
/-- the answer v, the world w2 -/
def zD (v : Option zV) (w2 : List zE) : zP → List zE → Prop := fun o w' => o = .inl v ∧ w' = w2
theorem zMet.post {Y : zY} {d mc ms : Nat} {as : List zV} {w : List zE} {Post Post' : zP → List zE → Prop} (h : zMet Y d mc ms as w Post) (hp : ∀ o w', Post o w' → Post' o w') : zMet Y d mc ms as w Post' := by
  intro l G ad sz hfl p e ha hc hk s m args below hf hap hP hK
  obtain ⟨k, o, h1, h2, h3, h4⟩ := h l G ad sz hfl p e ha hc hk s m args below hf hap hP hK
  refine ⟨k, o, h1, h2, h3, ?_⟩
  rcases h4 with ⟨⟨⟨v, w', ad', a1, a2, a3⟩, a4⟩, hL⟩ | ⟨q, a1, E, ce, L, ⟨⟨w', ad', b1, b2⟩, b3⟩, b4⟩
  · exact Or.inl ⟨⟨⟨v, w', ad', a1, hp _ _ a2, a3⟩, a4⟩, hL⟩
  · exact Or.inr ⟨q, a1, E, ce, L, ⟨⟨w', ad', hp _ _ b1, b2⟩, b3⟩, b4⟩
theorem z_fin {Y : zY} {mc ms : Nat} {w : List zE} {Post : zP → List zE → Prop} {p : Program} {l : Launch} {e : Env} {R : Room} {s : State} {m : MethodId} {args : Array Value} {below : List Frame} {meth : Method} {c : Code} {G : zG} {ad : Nat → Nat} (hx : p.tables.exec = Jvm.exec) (hb : c.code = Y.2.1) (hr : meth.sig.returnType = Y.2.2.2.1) (hlk : meth.locks = false) :
    zFin Y mc ms w.length Post p l e R s m args below meth c G (va_A (zw G ad w) s.heap.size) ad (vx_MQ below (zQc G ad s.heap.size w Post) (zXC G (va_A (zw G ad w) s.heap.size) ad w.length Post) args s mc ms (va_A (zw G ad w) s.heap.size)) := by
  refine ⟨fun v w' ad' H locs lsA pc nc ns hpost hret hc hs hlen hag hst => ?_, fun U h => ?_⟩
  · obtain ⟨hP, hD, hS⟩ := hst
    refine W.widen hc hs ?_
    refine vx_ret ?_
    have hq : ∀ t : State, t.heap = H → s.WarmedH t.vm → zQc G ad s.heap.size w Post args s (.returned (v.map (zc G.2.2.1 ad'))) t := fun t ht _ => ⟨⟨v, w', ad', rfl, hpost, hlen, hag, by rw [ht]; exact hP, hD⟩, hS.F ht⟩
    rcases v with _ | n | n | x
    · exact W.vret hx hb (hr.trans hret.1) hq hS.2.2 hret.2
    · obtain ⟨hd, hty⟩ := hret
      rcases hty with h | ⟨h, hn⟩ | ⟨h, h0, h1⟩ | ⟨h, h0, h1⟩
      · exact W.zret hx hb (hr.trans h) rfl hq hS.2.2 hd
      · refine W.zret hx hb (hr.trans h) ?_ hq hS.2.2 hd
        rcases hn with rfl | rfl <;> rfl
      · refine W.zret hx hb (hr.trans h) ?_ hq hS.2.2 hd
        have hx9 : Int32.ofInt n = nI n.toNat := by rw [nI, ← Int32.ofInt_eq_ofNat, Int.toNat_of_nonneg h0]
        rw [hx9]
        exact (pk_charN (by omega)).1
      · refine W.zret hx hb (hr.trans h) ?_ hq hS.2.2 hd
        rw [narrow_byte]
        congr 1
        apply Int32.toInt_inj.mp
        rw [Int8.toInt_toInt32, Int32.toInt_toInt8, zin_t ⟨by omega, by omega⟩]
        rw [Int.bmod_eq_of_le (by omega) (by omega)]
    · exact W.lret hx hb (hr.trans hret.2) hq hS.2.2 hret.1
    · obtain ⟨hd, n, hn⟩ := hret
      refine W.aret hx hb (hr.trans hn) (Or.inl ⟨n, rfl⟩) ?_ hq hS.2.2 hd
      rcases x with _ | k | k
      · exact Or.inl rfl
      · exact Or.inr ⟨_, rfl⟩
      · exact Or.inr ⟨_, rfl⟩
  · obtain ⟨o, h1, h2, h3⟩ := h
    refine ⟨o, h1, h2, ?_⟩
    rcases h3 with ⟨h, _⟩ | h
    · exact h.elim
    · exact Or.inr h
theorem z_intro {Y : zY} {d mc ms : Nat} {as : List zV} {w : List zE} {Post : zP → List zE → Prop} {ls : List (Nat × zV)} (hy : plainName Y.1.cls = true) (hh : Y.2.2.2.2 = []) (hla : ∀ ac ad, lv_args 0 (as.map (zc ac ad)) = zls ac ad ls) (hlen : ∀ ac ad, (lg_sl (as.map (zc ac ad))).length ≤ Y.2.2.1)
    (k : Wa Y d mc ms w.length Post 0 ls [] w 0 0) : zMet Y d mc ms as w Post := by
  intro l G ad sz hfl
  refine vx_ofW (cc := Y.2.1) (maxL := Y.2.2.1) (ret := Y.2.2.2.1) (ws' := []) hy (by unfold zwd; rw [hh]) ?_
  intro p e s m args below meth c s₁ B hml ht hv
  obtain ⟨rfl, hsz, hP, hD0, hE, hT⟩ := hv
  subst hsz
  have hl := lv_entry (as.map (zc G.2.2.1 ad)) (hlen G.2.2.1 ad)
  rw [lg_entry_eq]
  rw [hla] at hl
  refine k p l e _ s m _ below meth c G (va_A (zw G ad w) s.heap.size) ad _ ⟨hfl, ⟨Nat.le_refl _, Nat.le_refl _, Nat.le_refl _, Nat.le_refl _⟩, B.exec, B.bytes, hml, B.returns, findClass_of_methodNamed B.named, B.notSynchronized, (name_of_methodNamed B.named B.method).1, ?_, hT, hE, fun q h => Or.inr h⟩ (z_fin B.exec B.bytes B.returns B.notSynchronized) ad s.heap [] _ ⟨Nat.le_refl _, fun k h => rfl⟩ ⟨hP, hD0.self, va_S.rf⟩ hl
  rw [hh]
  cases hq : c.exceptionTable.toList with
  | nil => rfl
  | cons x t => exact (ht x (by rw [hq]; exact List.mem_cons_self)).elim
theorem z_introH {Y : zY} {d mc ms : Nat} {as : List zV} {w : List zE} {Post : zP → List zE → Prop} {ls : List (Nat × zV)} {h1 : Nat × Nat × Nat × Nat} {ht : List (Nat × Nat × Nat × Nat)} (hy : plainName Y.1.cls = true) (hh : Y.2.2.2.2 = h1 :: ht) (hla : ∀ ac ad, lv_args 0 (as.map (zc ac ad)) = zls ac ad ls) (hlen : ∀ ac ad, (lg_sl (as.map (zc ac ad))).length ≤ Y.2.2.1)
    (k : Wa Y d mc ms w.length Post 0 ls [] w 0 0) : zMet Y d mc ms as w Post := by
  intro l G ad sz hfl
  refine vx_ofWH (cc := Y.2.1) (maxL := Y.2.2.1) (ret := Y.2.2.2.1) (hh := Y.2.2.2.2) (ws' := []) hy (by unfold zwd; rw [hh]) ?_
  intro p e s m args below meth c s₁ B hml hv
  obtain ⟨rfl, hsz, hP, hD0, hE, hT⟩ := hv
  subst hsz
  have hl := lv_entry (as.map (zc G.2.2.1 ad)) (hlen G.2.2.1 ad)
  rw [lg_entry_eq]
  rw [hla] at hl
  have hcd : (Cond.codeWith Y.1 Y.2.1 Y.2.2.1 Y.2.2.2.1 Y.2.2.2.2).before (as.map (zc G.2.2.1 ad)).toArray s = true := atoms_spec (ws := [zwd Y]) B.pre _ (by unfold zwd; rw [hh]; exact List.mem_cons_self)
  exact k p l e _ s m _ below meth c G (va_A (zw G ad w) s.heap.size) ad _ ⟨hfl, ⟨Nat.le_refl _, Nat.le_refl _, Nat.le_refl _, Nat.le_refl _⟩, B.exec, B.bytes, hml, B.returns, findClass_of_methodNamed B.named, B.notSynchronized, (name_of_methodNamed B.named B.method).1, vx_table (x := Y.1) B hcd, hT, hE, fun q h => Or.inr h⟩ (z_fin B.exec B.bytes B.returns B.notSynchronized) ad s.heap [] _ ⟨Nat.le_refl _, fun k h => rfl⟩ ⟨hP, hD0.self, va_S.rf⟩ hl
/-! a part of a world, by an index map -/
def zrv (ρ : List Nat) (v : zV) : zV := match v with
  | .inr (.inr (some (.inl k))) => zR (ρ.getD k 0)
  | v => v
def zre (ρ : List Nat) (e : zE) : zE := match e with
  | .inl a => .inl a
  | .inr (.inl (n, f)) => .inr (.inl (n, fun j => (f j).map fun k => ρ.getD k 0))
  | .inr (.inr (c, fs)) => .inr (.inr (c, fs.map (zrv ρ)))
theorem zc_ren (ρ : List Nat) (ac ad : Nat → Nat) (v : zV) : zc ac (fun k => ad (ρ.getD k 0)) v = zc ac ad (zrv ρ v) := by rcases v with n | n | _ | k | k <;> rfl
theorem ze_ren (ρ : List Nat) (G : zG) (ad : Nat → Nat) (e : zE) : ze G (fun k => ad (ρ.getD k 0)) e = ze G ad (zre ρ e) := by
  rcases e with a | ⟨n, f⟩ | ⟨c, fs⟩
  · rfl
  · simp only [ze, zre, Option.map_map]
    rfl
  · simp only [ze, zre, List.map_map]
    congr 3
    funext v
    exact zc_ren ρ G.2.2.1 ad v
def zins (f : zE → zE) : List Nat → List zE → List zE → List zE
  | i :: is, e :: es, w => zins f is es (w.set i (f e))
  | _, _, w => w
theorem zins_len (f : zE → zE) : ∀ (is : List Nat) (es w : List zE), (zins f is es w).length = w.length
  | [], es, w => by cases es <;> rfl
  | i :: is, [], w => rfl
  | i :: is, e :: es, w => by rw [zins, zins_len f is es, List.length_set]
theorem zins_out (f : zE → zE) : ∀ (is : List Nat) (es w : List zE) (k : Nat), k ∉ is → (zins f is es w)[k]? = w[k]?
  | [], es, w, k, _ => by cases es <;> rfl
  | i :: is, [], w, k, _ => rfl
  | i :: is, e :: es, w, k, h => by
    rw [zins, zins_out f is es _ k (fun h2 => h (List.mem_cons_of_mem _ h2)), List.getElem?_set_ne (fun e => h (by rw [e]; exact List.mem_cons_self))]
theorem zins_in (f : zE → zE) : ∀ (is : List Nat) (es w : List zE) (j k : Nat) (e : zE), is.Nodup → is[j]? = some k → es[j]? = some e → k < w.length → (zins f is es w)[k]? = some (f e)
  | [], es, w, j, k, e, _, h, _, _ => by simp at h
  | i :: is, [], w, j, k, e, _, _, h, _ => by simp at h
  | i :: is, x :: es, w, 0, k, e, hn, h1, h2, hl => by
    simp only [List.getElem?_cons_zero, Option.some.injEq] at h1 h2
    subst h1; subst h2
    rw [zins, zins_out f is es _ i (List.nodup_cons.mp hn).1, List.getElem?_set_self hl]
  | i :: is, x :: es, w, j + 1, k, e, hn, h1, h2, hl => by
    rw [List.getElem?_cons_succ] at h1 h2
    rw [zins]
    exact zins_in f is es _ j k e (List.nodup_cons.mp hn).2 h1 h2 (by rw [List.length_set]; exact hl)
theorem zD_len {A : Nat → Prop} {G : zG} {ad : Nat → Nat} {w w' : List zE} (h : va_D A (zw G ad w)) (hl : w'.length = w.length) : va_D A (zw G ad w') := by
  have key : ∀ (k : Nat) (q : Nat × va_E), (zw G ad w')[k]? = some q → ∃ e, (zw G ad w)[k]? = some (q.1, e) := by
    intro k q hq
    rw [zw_at] at hq
    cases h1 : w'[k]? with
    | none => rw [h1] at hq; cases hq
    | some e =>
      rw [h1] at hq
      cases hq
      have hk : k < w.length := by rw [← hl]; exact (List.getElem?_eq_some_iff.mp h1).1
      exact ⟨_, zw_get (List.getElem?_eq_getElem hk)⟩
  refine ⟨fun i j p q hi hj hpq => ?_, fun k q hk => ?_⟩
  · obtain ⟨e1, h1⟩ := key i p hi
    obtain ⟨e2, h2⟩ := key j q hj
    exact h.1 i j _ _ h1 h2 hpq
  · obtain ⟨e1, h1⟩ := key k q hk
    exact h.2 k (q.1, e1) h1
/-- the callee's part of the caller's world -/
theorem z_part {G : zG} {ad : Nat → Nat} {w w1 : List zE} {ρ : List Nat} (hsub : ρ.map (fun i => w[i]?) = w1.map fun e => some (zre ρ e)) : ∀ (j : Nat) (q : Nat × va_E), (zw G (fun k => ad (ρ.getD k 0)) w1)[j]? = some q → ∃ i, ρ[j]? = some i ∧ q.1 = ad i ∧ (zw G ad w)[i]? = some q := by
  intro j q hq
  rw [zw_at] at hq
  cases h1 : w1[j]? with
  | none => rw [h1] at hq; cases hq
  | some e =>
    rw [h1] at hq
    cases hq
    have h2 : (ρ.map (fun i => w[i]?))[j]? = some (some (zre ρ e)) := by rw [hsub, List.getElem?_map, h1]; rfl
    rw [List.getElem?_map] at h2
    cases h3 : ρ[j]? with
    | none => rw [h3] at h2; cases h2
    | some i =>
      rw [h3] at h2
      have h4 : w[i]? = some (zre ρ e) := Option.some.inj h2
      have h5 : ρ.getD j 0 = i := by rw [List.getD_eq_getElem?_getD, h3]; rfl
      refine ⟨i, rfl, ?_, ?_⟩
      · show ad (ρ.getD j 0) = ad i
        rw [h5]
      · rw [zw_get h4]
        show some (ad i, ze G ad (zre ρ e)) = some (ad (ρ.getD j 0), ze G (fun k => ad (ρ.getD k 0)) e)
        rw [ze_ren, h5]
theorem z_partP {G : zG} {ad : Nat → Nat} {w w1 : List zE} {ρ : List Nat} {H : Heap} (hsub : ρ.map (fun i => w[i]?) = w1.map fun e => some (zre ρ e)) (hP : va_P G.1 vwCl (zw G ad w) H) : va_P G.1 vwCl (zw G (fun k => ad (ρ.getD k 0)) w1) H := by
  intro j q hq
  obtain ⟨i, -, -, h⟩ := z_part hsub j q hq
  exact hP i q h
theorem z_partD {G : zG} {ad : Nat → Nat} {w w1 : List zE} {ρ : List Nat} {A : Nat → Prop} (hsub : ρ.map (fun i => w[i]?) = w1.map fun e => some (zre ρ e)) (hn : ρ.Nodup) (hD : va_D A (zw G ad w)) : va_D A (zw G (fun k => ad (ρ.getD k 0)) w1) := by
  refine ⟨fun i j p q hi hj hpq => ?_, fun k q hk => ?_⟩
  · obtain ⟨i1, a1, -, b1⟩ := z_part hsub i p hi
    obtain ⟨j1, a2, -, b2⟩ := z_part hsub j q hj
    have := hD.1 i1 j1 _ _ b1 b2 hpq
    subst this
    exact (List.getElem?_inj (List.getElem?_eq_some_iff.mp a1).1 hn).mp (a1.trans a2.symm)
  · obtain ⟨i, -, -, h⟩ := z_part hsub k q hk
    exact hD.2 i q h
/-- behind the call: the callee's cells as it left them, the others as they were -/
theorem z_back {G : zG} {ad : Nat → Nat} {w w1 w1' : List zE} {ρ : List Nat} {A : Nat → Prop} {H H1 : Heap} (hsub : ρ.map (fun i => w[i]?) = w1.map fun e => some (zre ρ e)) (hn : ρ.Nodup) (hlen : w1'.length = w1.length) (hP : va_P G.1 vwCl (zw G ad w) H) (hD : va_D A (zw G ad w))
    (hk : ∀ q : Nat, q < H.size → ¬ va_A (zw G (fun k => ad (ρ.getD k 0)) w1) H.size q → H1[q]? = H[q]?) (hP1 : va_P G.1 vwCl (zw G (fun k => ad (ρ.getD k 0)) w1') H1) : va_P G.1 vwCl (zw G ad (zins (zre ρ) ρ w1' w)) H1 := by
  have hρl : ρ.length = w1.length := by have := congrArg List.length hsub; simpa using this
  intro k q hq
  rw [zw_at] at hq
  by_cases hk1 : k ∈ ρ
  · obtain ⟨j, hj⟩ := List.getElem?_of_mem hk1
    have hjl : j < w1'.length := by rw [hlen, ← hρl]; exact (List.getElem?_eq_some_iff.mp hj).1
    have hkl : k < w.length := by
      have h2 : (ρ.map (fun i => w[i]?))[j]? = (w1.map fun e => some (zre ρ e))[j]? := by rw [hsub]
      rw [List.getElem?_map, hj, List.getElem?_map, List.getElem?_eq_getElem (by rw [← hlen]; exact hjl)] at h2
      exact (List.getElem?_eq_some_iff.mp (Option.some.inj h2)).1
    rw [zins_in (zre ρ) ρ w1' w j k _ hn hj (List.getElem?_eq_getElem hjl) hkl] at hq
    cases hq
    have h5 : ρ.getD j 0 = k := by rw [List.getD_eq_getElem?_getD, hj]; rfl
    have h6 := hP1 j _ (zw_get (List.getElem?_eq_getElem hjl))
    rw [ze_ren, h5] at h6
    exact h6
  · rw [zins_out (zre ρ) ρ w1' w k hk1] at hq
    have hq' : (zw G ad w)[k]? = some q := by rw [zw_at]; exact hq
    have h1 := hP k q hq'
    refine h1.kept (hk q.1 h1.lt ?_)
    intro h
    rcases h with ⟨j, e, hj⟩ | h
    · obtain ⟨i, a1, -, b1⟩ := z_part hsub j _ hj
      have := hD.1 k i _ _ hq' b1 rfl
      subst this
      exact hk1 (List.mem_of_getElem? a1)
    · have := h1.lt
      omega
section ZC
variable {Y Y1 : zY} {d d1 mc ms mc1 ms1 n0 : Nat} {Post Post1 : zP → List zE → Prop} {pc pc' : Nat} {ls : List (Nat × zV)} {st stk as : List zV} {w w1 : List zE} {nc ns : Nat} {ρ : List Nat}
theorem z_preA {G : zG} {A : Nat → Prop} {ad : Nat → Nat} {s : State} {H : Heap} {locs : List Loc} (hsub : ρ.map (fun i => w[i]?) = w1.map fun e => some (zre ρ e)) (hD : va_D A (zw G ad w)) (hS : va_S A s.heap H locs) (hA : ∀ q : Nat, s.heap.size ≤ q → A q) : ∀ q, va_A (zw G (fun k => ad (ρ.getD k 0)) w1) H.size q → A q := by
  intro q h
  rcases h with ⟨j, e, hj⟩ | h
  · obtain ⟨i, -, -, b⟩ := z_part hsub j _ hj
    exact hD.2 i _ b
  · exact hA q (Nat.le_trans hS.1 h)
theorem z_pre {G : zG} {A : Nat → Prop} {ad : Nat → Nat} {s : State} {H : Heap} {locs : List Loc} (hsub : ρ.map (fun i => w[i]?) = w1.map fun e => some (zre ρ e)) (hn : ρ.Nodup) (hst : zSt G A ad s H locs w) (hE : zEnv G A s s.heap) (hT : zTab s) (hA : ∀ q : Nat, s.heap.size ≤ q → A q) :
    FrameBlind (zPc G (fun k => ad (ρ.getD k 0)) H.size as w1) ∧ ∀ U : State, U.heap = H → s.WarmedH U.vm → zPc G (fun k => ad (ρ.getD k 0)) H.size as w1 (as.map (zc G.2.2.1 (fun k => ad (ρ.getD k 0)))).toArray U := by
  obtain ⟨hP, hD, hS⟩ := hst
  refine ⟨fun a U g mk q => ?_, fun U hU hW => ?_⟩
  · obtain ⟨q0, q1, qP, qD, qE, qT⟩ := q
    have hW : U.WarmedH (U.calling g mk a).vm := State.WarmedH.refl U
    exact ⟨q0, q1, qP, qD, zEnv_to qE va_S.rf rfl hW (fun _ h => h), zTab_warm hW qT⟩
  · exact ⟨rfl, by rw [hU], by rw [hU]; exact z_partP hsub hP, (z_partD hsub hn hD).weaken (fun _ _ _ _ => trivial), zEnv_to hE hS hU hW (z_preA hsub hD hS hA), zTab_warm hW hT⟩
/-- the heart of every call that makes no cell that stays: what comes back is put into the caller's world -/
theorem z_go {p : Program} {l : Launch} {e : Env} {R : Room} {s : State} {m : MethodId} {args : Array Value} {below : List Frame} {meth : Method} {c : Code} {G : zG} {A : Nat → Prop} {ad0 ad : Nat → Nat} {Qm : State → Prop} {H : Heap} {locs : List Loc} {lsA : Array Slot} {stv : List Value} {a : Array Value}
    (C9 : zCx Y d mc ms p l R s m meth c G A) (F : zFin Y mc ms n0 Post p l e R s m args below meth c G A ad0 Qm) (hag : n0 ≤ w.length ∧ zAg n0 w.length ad ad0) (hst : zSt G A ad s H locs w) (hl : lv_has lsA Y.2.2.1 (zls G.2.2.1 ad ls))
    (hsub : ρ.map (fun i => w[i]?) = w1.map fun e => some (zre ρ e)) (hn : ρ.Nodup) (hlen : ∀ o w', Post1 o w' → w'.length = w1.length)
    (hr : vx_Run p l e R s m args below meth c H locs nc ns mc1 ms1 (F0 m pc lsA stv) (st.map (zc G.2.2.1 ad)) (zQc G (fun k => ad (ρ.getD k 0)) H.size w1 Post1 a) (zXC G (va_A (zw G (fun k => ad (ρ.getD k 0)) w1) H.size) (fun k => ad (ρ.getD k 0)) w1.length Post1) (va_A (zw G (fun k => ad (ρ.getD k 0)) w1) H.size))
    (kx : ∀ (E : String) (w1' : List zE) (H1 : Heap) (locs1 : List Loc) (q : Addr) (ce : Cell), Post1 (.inr E) w1' → zSt G A ad s H1 locs1 (zins (zre ρ) ρ w1' w) → H1[q]? = some ce → ce.vm = .none → s.vm.findClass E = some ce.cls → vx_W p l e R s m args below meth c H1 locs1 (nc + mc1) (ns + ms1) Qm (F0 m pc lsA (st.map (zc G.2.2.1 ad))) q)
    (k : ∀ (v : Option zV) (w1' : List zE), Post1 (.inl v) w1' → Wa Y d mc ms n0 Post (pc + 3) ls ((v.map (zrv ρ)).toList ++ st) (zins (zre ρ) ρ w1' w) (nc + mc1) (ns + ms1)) :
    W p l e R s m args below meth c H locs nc ns Qm (F0 m pc lsA stv) := by
  obtain ⟨hfl, hR, hx, hb, hml, hr9, hown, hlk, hnm, htb, hT, hE, hA⟩ := id C9
  obtain ⟨hP, hD, hS⟩ := id hst
  have hF : ∀ q, va_A (zw G (fun k => ad (ρ.getD k 0)) w1) H.size q → A q := z_preA hsub hD hS hA
  intro T hT9 X
  rcases hr T hT9 X with ⟨v, st₀, t, T', L, h0, X', hL, e1, e2, ⟨⟨v1, w1', ad1, hv, hp, hle, hag1, hP1, hD1⟩, hF1⟩, stp⟩ | ⟨q, st₀, t, T', L, E, ce, h0, X', hL, e1, e2, ⟨⟨w1', ad1, hp, hle, hag1, hP1, hD1⟩, hF1⟩, hce, hcv, hcl, stp⟩
  · cases hv
    have hl1 := hlen _ _ hp
    have had : ad1 = fun k => ad (ρ.getD k 0) := by
      funext k
      exact hag1 k (by rw [hl1]; omega)
    subst had
    obtain ⟨k1, k2, k3⟩ := vx_keep h0 e1 hS (fun q _ h => hF q h) hF hL hF1
    have hP2 : va_P G.1 vwCl (zw G ad (zins (zre ρ) ρ w1' w)) T'.heap := z_back hsub hn hl1 hP hD k2 (by rw [e1]; exact hP1)
    have hD2 : va_D A (zw G ad (zins (zre ρ) ρ w1' w)) := zD_len hD (zins_len _ _ _ _)
    have hkk := k v1 w1' hp p l e R s m args below meth c G A ad0 Qm C9 F ad T'.heap (locs ++ L) lsA (by rw [zins_len]; exact hag) ⟨hP2, hD2, k3⟩ hl
    obtain ⟨t2, a1, b1⟩ := hkk T' rfl X'
    refine ⟨t2, stp t2 ?_, b1⟩
    have e9 : (v1.map (zc G.2.2.1 (fun k => ad (ρ.getD k 0)))).toList ++ st.map (zc G.2.2.1 ad) = ((v1.map (zrv ρ)).toList ++ st).map (zc G.2.2.1 ad) := by
      cases v1 with
      | none => rfl
      | some v => simp only [Option.map_some, Option.toList_some, List.cons_append, List.nil_append, List.map_cons, zc_ren]
    rw [e9]
    exact a1
  · have hl1 := hlen _ _ hp
    have had : ad1 = fun k => ad (ρ.getD k 0) := by
      funext k
      exact hag1 k (by rw [hl1]; omega)
    subst had
    obtain ⟨k1, k2, k3⟩ := vx_keep h0 e1 hS (fun q _ h => hF q h) hF hL hF1
    have hP2 : va_P G.1 vwCl (zw G ad (zins (zre ρ) ρ w1' w)) T'.heap := z_back hsub hn hl1 hP hD k2 (by rw [e1]; exact hP1)
    have hD2 : va_D A (zw G ad (zins (zre ρ) ρ w1' w)) := zD_len hD (zins_len _ _ _ _)
    obtain ⟨t2, a1, b1⟩ := kx E w1' T'.heap (locs ++ L) q ce hp ⟨hP2, hD2, k3⟩ (by rw [e1]; exact hce) hcv hcl T' rfl X'
    exact ⟨t2, stp.trans a1, b1⟩
/-- a throw that isn't caught here goes on -/
theorem z_out {p : Program} {l : Launch} {e : Env} {R : Room} {s : State} {m : MethodId} {args : Array Value} {below : List Frame} {meth : Method} {c : Code} {G : zG} {A : Nat → Prop} {ad0 ad : Nat → Nat} {Qm : State → Prop} {H : Heap} {locs : List Loc} {lsA : Array Slot} {stv : List Value} {E : String} {q : Addr} {ce : Cell}
    (C9 : zCx Y d mc ms p l R s m meth c G A) (F : zFin Y mc ms n0 Post p l e R s m args below meth c G A ad0 Qm) (hag : n0 ≤ w.length ∧ zAg n0 w.length ad ad0) (hst : zSt G A ad s H locs w) (hh : Y.2.2.2.2 = []) (hpost : Post (.inr E) w) (hc : nc ≤ mc) (hs : ns ≤ ms) (hce : H[q]? = some ce) (hcv : ce.vm = .none) (hcl : s.vm.findClass E = some ce.cls) :
    vx_W p l e R s m args below meth c H locs nc ns Qm (F0 m pc lsA stv) q := by
  obtain ⟨hfl, hR, hx, hb, hml, hr9, hown, hlk, hnm, htb, hT, hE, hA⟩ := id C9
  obtain ⟨hP, hD, hS⟩ := id hst
  have h9 := vx_out (p := p) (l := l) (e := e) (R := R) (m := m) (args := args) (below := below) (cells := nc) (slots := ns) (ls := lsA) (rest := stv) (pc := pc) (Qc := fun _ _ _ _ => False) (XC := zXC G A ad0 n0 Post) (mc := mc) (ms := ms) (free := A) (by rw [htb, hh]; intro x hx; cases hx) hlk hce hcv hcl (fun t ht hv => zthrow_end hpost hag hP hD hS t hv (by rw [ht]; exact Nat.le_refl _) (fun q _ => by rw [ht])) hS.2.2 hc hs
  intro T hT9 X
  obtain ⟨t, a, b⟩ := h9 T hT9 X
  exact ⟨t, a, F.2 t b⟩
def zNe (C : String) : Prop := C ≠ "java/lang/invoke/MethodHandle" ∧ C ≠ "java/lang/invoke/VarHandle"
/-- what is asked of a callee, once and for all -/
def zOk (Y1 : zY) (n : Nat) : Prop := zwd Y1 ∈ lw_tbl ∧ Cond.initialized Y1.1.cls ∈ lw_tbl ∧ zNe Y1.1.cls ∧ (parseMethodDescriptor Y1.1.desc).map (fun q => q.parameters.length) = some n ∧ Y1.2.2.1 ≤ 15 ∧ Y1.2.2.2.2 = []
def zOkH (Y1 : zY) (n : Nat) : Prop := zwd Y1 ∈ lw_tbl ∧ Cond.initialized Y1.1.cls ∈ lw_tbl ∧ zNe Y1.1.cls ∧ (parseMethodDescriptor Y1.1.desc).map (fun q => q.parameters.length) = some n ∧ Y1.2.2.1 ≤ 15 ∧ Cond.static Y1.1 ∈ lw_tbl
def zOkV (Y1 : zY) (n : Nat) : Prop := zOk Y1 n ∧ Cond.instanceMethod Y1.1 ∈ lw_tbl ∧ Cond.selects Y1.1.cls Y1.1 Y1.1 ∈ lw_tbl
def zOkS (Y1 : zY) (n : Nat) : Prop := zOk Y1 n ∧ Cond.static Y1.1 ∈ lw_tbl
def zOkI (Y1 : zY) (n : Nat) : Prop := zOk Y1 n ∧ Cond.instanceMethod Y1.1 ∈ lw_tbl ∧ Y1.1.name = "<init>" ∧ Y1.2.2.2.1 = none
theorem zwd_good (Y1 : zY) : goodWord (zwd Y1) = true := by
  unfold zwd
  cases Y1.2.2.2.2 <;> rfl
theorem z_cb {n idx : Nat} {R : Room} {s : State} {args : Array Value} (hO : zOk Y1 n) (hT : zTab s) (hlink : Cond.methodLink Y.1.cls idx Y1.1 ∈ lw_tbl) (hd : d1 + 1 ≤ d) (hR : d ≤ R.frames ∧ 34 * d ≤ R.locals ∧ mc ≤ R.cells ∧ ms ≤ R.slots) :
    CallB R s args Y.1.cls idx Y1.1 Y1.2.1 Y1.2.2.1 Y1.2.2.2.1 [zwd Y1] (zRm d1 mc1 ms1) mc1 ms1 n := by
  obtain ⟨h1, h2, h3, h4, h5, h6⟩ := hO
  have hw : zwd Y1 = .code Y1.1 Y1.2.1 Y1.2.2.1 Y1.2.2.2.1 := by unfold zwd; rw [h6]
  refine ⟨rfl, rfl, by show d1 + 1 ≤ R.frames; omega, by show 8 + (Y1.2.2.1 + 11) + 34 * d1 ≤ R.locals; omega, fun w hw9 a' U hW => ?_, by rw [hw]; exact List.mem_cons_self, ?_, hT.at h2 (zgood_c _ rfl) _, h3, fun sig h => ?_, hT.at hlink (zgood_c _ rfl) _⟩
  · rw [List.mem_singleton] at hw9
    subst hw9
    exact (zTab_warm hW hT).at h1 (zgood_c _ (zwd_good Y1)) _
  · rw [← hw]
    exact hT.at h1 (zgood_c _ (zwd_good Y1)) _
  · rw [h] at h4
    exact (Option.some.inj h4).symm
theorem z_map (ac ad : Nat → Nat) (as : List zV) : (as.map (zrv ρ)).map (zc ac ad) = as.map (zc ac (fun k => ad (ρ.getD k 0))) := by
  rw [List.map_map]
  congr 1
  funext v
  exact (zc_ren ρ ac ad v).symm
theorem z_cat {ac ad : Nat → Nat} (h : (st.map zcat).sum ≤ 8) : ((st.map (zc ac ad)).map fun v => v.category).sum ≤ 8 := by
  rw [List.map_map]
  have : ((fun v : Value => v.category) ∘ zc ac ad) = zcat := by funext v; exact zcat_c _ _ v
  rw [this]; exact h

theorem wa_callV {q ci : Nat} {fs : List zV} {vc : vw_C} {idx n : Nat} (M : zMet Y1 d1 mc1 ms1 (zR q :: as) w1 Post1) (hO : zOkV Y1 n) (hlink : Cond.methodLink Y.1.cls idx Y1.1 ∈ lw_tbl) (hd : decode Y.2.1 pc = .ok (.invokevirtual idx, 3)) (hp : pc + 3 = pc') (ρ : List Nat) (hsub : ρ.map (fun i => w[i]?) = w1.map fun e => some (zre ρ e)) (hn : ρ.Nodup) (hstk : (as.map (zrv ρ)).reverse ++ zR (ρ.getD q 0) :: st = stk) (hna : as.length = n) (hq : w1[q]? = some (zO ci fs)) (hvc : vwCl[ci]? = some vc) (hcls : vc.1 = Y1.1.cls) (hd1 : d1 + 1 ≤ d) (hcat : (st.map zcat).sum ≤ 8) (hh : Y.2.2.2.2 = []) (hmc : nc + mc1 ≤ mc) (hms : ns + ms1 ≤ ms) (hlen : ∀ o w', Post1 o w' → w'.length = w1.length)
    (kx : ∀ (E : String) (w1' : List zE), Post1 (.inr E) w1' → Post (.inr E) (zins (zre ρ) ρ w1' w))
    (k : ∀ (v : Option zV) (w1' : List zE), Post1 (.inl v) w1' → Wa Y d mc ms n0 Post pc' ls ((v.map (zrv ρ)).toList ++ st) (zins (zre ρ) ρ w1' w) (nc + mc1) (ns + ms1)) : Wa Y d mc ms n0 Post pc ls stk w nc ns := by
  subst hp
  subst hstk
  intro p l e R s m args below meth c G A ad0 Qm C9 F ad H locs lsA hag hst hl
  obtain ⟨hfl, hR, hx, hb, hml, hr9, hown, hlk, hnm, htb, hT, hE, hA⟩ := id C9
  refine z_go C9 F hag hst hl hsub hn hlen (a := ((zR q :: as).map (zc G.2.2.1 (fun k => ad (ρ.getD k 0)))).toArray) ?_ (fun E w1' H1 locs1 q ce hp1 hst1 hce hcv hcl => z_out C9 F (by rw [zins_len]; exact hag) hst1 hh (kx E w1' hp1) hmc hms hce hcv hcl) k
  refine vx_runV (As := as.map (zc G.2.2.1 (fun k => ad (ρ.getD k 0)))) (b := ad (ρ.getD q 0)) (C := Y1.1.cls) (cc := Y.2.1) (nL := Y.2.2.1) (Ts := []) ⟨hx, hb, hml, hown, fun _ h => nomatch h⟩ (M l G (fun k => ad (ρ.getD k 0)) H.size hfl) ⟨z_cb hO.1 hT hlink hd1 hR, hT.at hO.2.1 (zgood_c _ rfl) _, hT.at hO.2.2 (zgood_c _ rfl) _⟩ ⟨(z_pre hsub hn hst hE hT hA).1, ?_, (z_pre (as := zR q :: as) hsub hn hst hE hT hA).2⟩ rfl (by rw [List.length_map]; exact hna) hl.1 ?_ (lv_room (z_cat hcat)) hd ⟨by omega, by omega⟩
  · obtain ⟨cell, g1, g2, g3⟩ := va_recv hE.1.1 (z_partP (ad := ad) hsub hst.1) hvc (zw_get hq)
    exact ⟨cell, g1, g2, by rw [← hcls]; exact g3⟩
  · show List.map _ _ = _
    rw [List.map_append, List.map_reverse, z_map]
    rfl
theorem wa_callK {q : Nat} {idx n : Nat} (M : zMet Y1 d1 mc1 ms1 (zK q :: as) w1 Post1) (hO : zOkV Y1 n) (hlink : Cond.methodLink Y.1.cls idx Y1.1 ∈ lw_tbl) (hd : decode Y.2.1 pc = .ok (.invokevirtual idx, 3)) (hp : pc + 3 = pc') (ρ : List Nat) (hsub : ρ.map (fun i => w[i]?) = w1.map fun e => some (zre ρ e)) (hn : ρ.Nodup) (hstk : (as.map (zrv ρ)).reverse ++ zK q :: st = stk) (hna : as.length = n) (hK : ∀ (G : zG) (A : Nat → Prop) (s : State) (H : Heap), zEnv G A s H → va_O Y1.1.cls (G.2.2.1 q) A s H) (hd1 : d1 + 1 ≤ d) (hcat : (st.map zcat).sum ≤ 8) (hh : Y.2.2.2.2 = []) (hmc : nc + mc1 ≤ mc) (hms : ns + ms1 ≤ ms) (hlen : ∀ o w', Post1 o w' → w'.length = w1.length)
    (kx : ∀ (E : String) (w1' : List zE), Post1 (.inr E) w1' → Post (.inr E) (zins (zre ρ) ρ w1' w))
    (k : ∀ (v : Option zV) (w1' : List zE), Post1 (.inl v) w1' → Wa Y d mc ms n0 Post pc' ls ((v.map (zrv ρ)).toList ++ st) (zins (zre ρ) ρ w1' w) (nc + mc1) (ns + ms1)) : Wa Y d mc ms n0 Post pc ls stk w nc ns := by
  subst hp
  subst hstk
  intro p l e R s m args below meth c G A ad0 Qm C9 F ad H locs lsA hag hst hl
  obtain ⟨hfl, hR, hx, hb, hml, hr9, hown, hlk, hnm, htb, hT, hE, hA⟩ := id C9
  refine z_go C9 F hag hst hl hsub hn hlen (a := ((zK q :: as).map (zc G.2.2.1 (fun k => ad (ρ.getD k 0)))).toArray) ?_ (fun E w1' H1 locs1 q ce hp1 hst1 hce hcv hcl => z_out C9 F (by rw [zins_len]; exact hag) hst1 hh (kx E w1' hp1) hmc hms hce hcv hcl) k
  refine vx_runV (As := as.map (zc G.2.2.1 (fun k => ad (ρ.getD k 0)))) (b := G.2.2.1 q) (C := Y1.1.cls) (cc := Y.2.1) (nL := Y.2.2.1) (Ts := []) ⟨hx, hb, hml, hown, fun _ h => nomatch h⟩ (M l G (fun k => ad (ρ.getD k 0)) H.size hfl) ⟨z_cb hO.1 hT hlink hd1 hR, hT.at hO.2.1 (zgood_c _ rfl) _, hT.at hO.2.2 (zgood_c _ rfl) _⟩ ⟨(z_pre hsub hn hst hE hT hA).1, ?_, (z_pre (as := zK q :: as) hsub hn hst hE hT hA).2⟩ rfl (by rw [List.length_map]; exact hna) hl.1 ?_ (lv_room (z_cat hcat)) hd ⟨by omega, by omega⟩
  · obtain ⟨cell, g1, g2, g3, -⟩ := (hK G A s s.heap hE).kept hst.2.2.2.1
    exact ⟨cell, g1, g2, g3⟩
  · show List.map _ _ = _
    rw [List.map_append, List.map_reverse, z_map]
    rfl
theorem wa_callS {idx n : Nat} (M : zMet Y1 d1 mc1 ms1 as w1 Post1) (hO : zOkS Y1 n) (hlink : Cond.methodLink Y.1.cls idx Y1.1 ∈ lw_tbl) (hd : decode Y.2.1 pc = .ok (.invokestatic idx, 3)) (hp : pc + 3 = pc') (ρ : List Nat) (hsub : ρ.map (fun i => w[i]?) = w1.map fun e => some (zre ρ e)) (hn : ρ.Nodup) (hstk : (as.map (zrv ρ)).reverse ++ st = stk) (hna : as.length = n) (hd1 : d1 + 1 ≤ d) (hcat : (st.map zcat).sum ≤ 8) (hh : Y.2.2.2.2 = []) (hmc : nc + mc1 ≤ mc) (hms : ns + ms1 ≤ ms) (hlen : ∀ o w', Post1 o w' → w'.length = w1.length)
    (kx : ∀ (E : String) (w1' : List zE), Post1 (.inr E) w1' → Post (.inr E) (zins (zre ρ) ρ w1' w))
    (k : ∀ (v : Option zV) (w1' : List zE), Post1 (.inl v) w1' → Wa Y d mc ms n0 Post pc' ls ((v.map (zrv ρ)).toList ++ st) (zins (zre ρ) ρ w1' w) (nc + mc1) (ns + ms1)) : Wa Y d mc ms n0 Post pc ls stk w nc ns := by
  subst hp
  subst hstk
  intro p l e R s m args below meth c G A ad0 Qm C9 F ad H locs lsA hag hst hl
  obtain ⟨hfl, hR, hx, hb, hml, hr9, hown, hlk, hnm, htb, hT, hE, hA⟩ := id C9
  refine z_go C9 F hag hst hl hsub hn hlen (a := (as.map (zc G.2.2.1 (fun k => ad (ρ.getD k 0)))).toArray) ?_ (fun E w1' H1 locs1 q ce hp1 hst1 hce hcv hcl => z_out C9 F (by rw [zins_len]; exact hag) hst1 hh (kx E w1' hp1) hmc hms hce hcv hcl) k
  refine vx_runS (As := as.map (zc G.2.2.1 (fun k => ad (ρ.getD k 0)))) (cc := Y.2.1) (nL := Y.2.2.1) (Ts := []) ⟨hx, hb, hml, hown, fun _ h => nomatch h⟩ (M l G (fun k => ad (ρ.getD k 0)) H.size hfl) ⟨z_cb hO.1 hT hlink hd1 hR, hT.at hO.2 (zgood_c _ rfl) _⟩ (z_pre hsub hn hst hE hT hA) rfl (by rw [List.length_map]; exact hna) hl.1 ?_ (lv_room (z_cat hcat)) hd ⟨by omega, by omega⟩
  · show List.map _ _ = _
    rw [List.map_append, List.map_reverse, z_map]
theorem wa_dV {q ci : Nat} {fs : List zV} {vc : vw_C} {idx n : Nat} {v : Option zV} {w2 w' : List zE} {st' : List zV} (M : zMet Y1 d1 0 0 (zR q :: as) w1 (zD v w2)) (hO : zOkV Y1 n) (hlink : Cond.methodLink Y.1.cls idx Y1.1 ∈ lw_tbl) (hd : decode Y.2.1 pc = .ok (.invokevirtual idx, 3)) (hp : pc + 3 = pc') (ρ : List Nat) (hsub : ρ.map (fun i => w[i]?) = w1.map fun e => some (zre ρ e)) (hn : ρ.Nodup) (hstk : (as.map (zrv ρ)).reverse ++ zR (ρ.getD q 0) :: st = stk) (hna : as.length = n) (hq : w1[q]? = some (zO ci fs)) (hvc : vwCl[ci]? = some vc) (hcls : vc.1 = Y1.1.cls) (hd1 : d1 + 1 ≤ d) (hcat : (st.map zcat).sum ≤ 8) (hh : Y.2.2.2.2 = []) (hmc : nc ≤ mc) (hms : ns ≤ ms) (hlen : w2.length = w1.length) (hw : zins (zre ρ) ρ w2 w = w') (hv : (v.map (zrv ρ)).toList ++ st = st')
    (k : Wa Y d mc ms n0 Post pc' ls st' w' nc ns) : Wa Y d mc ms n0 Post pc ls stk w nc ns := by
  subst hw
  subst hv
  exact wa_callV M hO hlink hd hp ρ hsub hn hstk hna hq hvc hcls hd1 hcat hh hmc hms (by intro o w' h; rw [h.2]; exact hlen) (fun E w1' h => nomatch h.1) (by
    intro v1 w1' h
    obtain ⟨h1, rfl⟩ := h
    cases h1
    exact k)
theorem wa_dK {q : Nat} {idx n : Nat} {v : Option zV} {w2 w' : List zE} {st' : List zV} (M : zMet Y1 d1 0 0 (zK q :: as) w1 (zD v w2)) (hO : zOkV Y1 n) (hlink : Cond.methodLink Y.1.cls idx Y1.1 ∈ lw_tbl) (hd : decode Y.2.1 pc = .ok (.invokevirtual idx, 3)) (hp : pc + 3 = pc') (ρ : List Nat) (hsub : ρ.map (fun i => w[i]?) = w1.map fun e => some (zre ρ e)) (hn : ρ.Nodup) (hstk : (as.map (zrv ρ)).reverse ++ zK q :: st = stk) (hna : as.length = n) (hK : ∀ (G : zG) (A : Nat → Prop) (s : State) (H : Heap), zEnv G A s H → va_O Y1.1.cls (G.2.2.1 q) A s H) (hd1 : d1 + 1 ≤ d) (hcat : (st.map zcat).sum ≤ 8) (hh : Y.2.2.2.2 = []) (hmc : nc ≤ mc) (hms : ns ≤ ms) (hlen : w2.length = w1.length) (hw : zins (zre ρ) ρ w2 w = w') (hv : (v.map (zrv ρ)).toList ++ st = st')
    (k : Wa Y d mc ms n0 Post pc' ls st' w' nc ns) : Wa Y d mc ms n0 Post pc ls stk w nc ns := by
  subst hw
  subst hv
  exact wa_callK M hO hlink hd hp ρ hsub hn hstk hna hK hd1 hcat hh hmc hms (by intro o w' h; rw [h.2]; exact hlen) (fun E w1' h => nomatch h.1) (by
    intro v1 w1' h
    obtain ⟨h1, rfl⟩ := h
    cases h1
    exact k)
theorem wa_dS {idx n : Nat} {v : Option zV} {w2 w' : List zE} {st' : List zV} (M : zMet Y1 d1 0 0 as w1 (zD v w2)) (hO : zOkS Y1 n) (hlink : Cond.methodLink Y.1.cls idx Y1.1 ∈ lw_tbl) (hd : decode Y.2.1 pc = .ok (.invokestatic idx, 3)) (hp : pc + 3 = pc') (ρ : List Nat) (hsub : ρ.map (fun i => w[i]?) = w1.map fun e => some (zre ρ e)) (hn : ρ.Nodup) (hstk : (as.map (zrv ρ)).reverse ++ st = stk) (hna : as.length = n) (hd1 : d1 + 1 ≤ d) (hcat : (st.map zcat).sum ≤ 8) (hh : Y.2.2.2.2 = []) (hmc : nc ≤ mc) (hms : ns ≤ ms) (hlen : w2.length = w1.length) (hw : zins (zre ρ) ρ w2 w = w') (hv : (v.map (zrv ρ)).toList ++ st = st')
    (k : Wa Y d mc ms n0 Post pc' ls st' w' nc ns) : Wa Y d mc ms n0 Post pc ls stk w nc ns := by
  subst hw
  subst hv
  exact wa_callS M hO hlink hd hp ρ hsub hn hstk hna hd1 hcat hh hmc hms (by intro o w' h; rw [h.2]; exact hlen) (fun E w1' h => nomatch h.1) (by
    intro v1 w1' h
    obtain ⟨h1, rfl⟩ := h
    cases h1
    exact k)
end ZC
