/-! the judgement, with the law's script at hand: N ints xs -/
def zCxS (N : Nat) (xs : Nat → Int32) (Y : zY) (d mc ms : Nat) (p : Program) (l : Launch) (R : Room) (s : State) (m : MethodId) (meth : Method) (c : Code) (G : zG) (A : Nat → Prop) : Prop := (G.2.2.2.1 = N ∧ G.2.2.2.2 = xs) ∧ (l.flags = flags0 ∧ (d ≤ R.frames ∧ 34 * d ≤ R.locals ∧ mc ≤ R.cells ∧ ms ≤ R.slots) ∧ p.tables.exec = Jvm.exec ∧ c.code = Y.2.1 ∧ c.maxLocals = Y.2.2.1 ∧ meth.sig.returnType = Y.2.2.2.1 ∧ s.vm.findClass Y.1.cls = some m.cls ∧ meth.locks = false ∧ True ∧ True ∧ zTab s ∧ zEnv G A s s.heap ∧ (∀ q : Nat, s.heap.size ≤ q → A q))
def WL (N : Nat) (xs : Nat → Int32) (Y : zY) (d mc ms n0 : Nat) (Post : zP → List zE → Prop) (pc : Nat) (ls : List (Nat × zV)) (st : List zV) (w : List zE) (nc ns : Nat) : Prop :=
  ∀ (p : Program) (l : Launch) (e : Env) (R : Room) (s : State) (m : MethodId) (args : Array Value) (below : List Frame) (meth : Method) (c : Code) (G : zG) (A : Nat → Prop) (ad0 : Nat → Nat) (Qm : State → Prop),
    zCxS N xs Y d mc ms p l R s m meth c G A → zFin Y mc ms n0 Post p l e R s m args below meth c G A ad0 Qm →
    ∀ (ad : Nat → Nat) (H : Heap) (locs : List Loc) (lsA : Array Slot), n0 ≤ w.length ∧ zAg n0 w.length ad ad0 → zSt G A ad s H locs w → lv_has lsA Y.2.2.1 (zls G.2.2.1 ad ls) →
      W p l e R s m args below meth c H locs nc ns Qm (F0 m pc lsA (st.map (zc G.2.2.1 ad)))
section ZWL
variable {N : Nat} {xs : Nat → Int32} {Y Y1 : zY} {d d1 mc ms mc1 ms1 n0 : Nat} {Post Post1 : zP → List zE → Prop} {pc pc' : Nat} {ls : List (Nat × zV)} {st stk as : List zV} {w w1 : List zE} {nc ns : Nat} {ρ : List Nat}
theorem wl_fold {ls' : List (Nat × zV)} {st' : List zV} {w' : List zE} (h : WL N xs Y d mc ms n0 Post pc ls' st' w' nc ns) (e1 : ls' = ls) (e2 : st' = st) (e3 : w' = w) : WL N xs Y d mc ms n0 Post pc ls st w nc ns := by
  subst e1; subst e2; subst e3; exact h
theorem wl_sub {ls' : List (Nat × zV)} (ks : List Nat) (hk : ks.filterMap (fun k => ls[k]?) = ls') (k : WL N xs Y d mc ms n0 Post pc ls' st w nc ns) : WL N xs Y d mc ms n0 Post pc ls st w nc ns := by
  intro p l e R s m args below meth c G A ad0 Qm C F ad H locs lsA hag hst hl
  refine k p l e R s m args below meth c G A ad0 Qm C F ad H locs lsA hag hst (zls_sub hl ?_)
  intro q hq
  subst hk
  obtain ⟨x, hx, rfl⟩ := List.mem_map.mp hq
  obtain ⟨i, -, hi⟩ := List.mem_filterMap.mp hx
  exact List.mem_map.mpr ⟨x, List.mem_of_getElem? hi, rfl⟩
theorem wl_iload_n {q : Fin 4} {i : Nat} {x : Int} (hd : decode Y.2.1 pc = .ok (.iload_n q, 1)) (hp : pc + 1 = pc') (hi : (q : Nat) = i) (hg : zget ls i = some (zI x)) (k : WL N xs Y d mc ms n0 Post pc' ls (zI x :: st) w nc ns) : WL N xs Y d mc ms n0 Post pc ls st w nc ns := by
  subst hp
  intro p l e R s m args below meth c G A ad0 Qm C F ad H locs lsA hag hst hl
  have kk := k p l e R s m args below meth c G A ad0 Qm C F ad H locs lsA hag hst hl
  obtain ⟨-, -, hx, hb, -⟩ := C.2
  exact lv_iload_n hx hb hd hi (zget_at hl hg) kk
theorem wl_iload {i : Nat} {x : Int} (hd : decode Y.2.1 pc = .ok (.iload i, 2)) (hp : pc + 2 = pc') (hg : zget ls i = some (zI x)) (k : WL N xs Y d mc ms n0 Post pc' ls (zI x :: st) w nc ns) : WL N xs Y d mc ms n0 Post pc ls st w nc ns := by
  subst hp
  intro p l e R s m args below meth c G A ad0 Qm C F ad H locs lsA hag hst hl
  have kk := k p l e R s m args below meth c G A ad0 Qm C F ad H locs lsA hag hst hl
  obtain ⟨-, -, hx, hb, -⟩ := C.2
  exact lv_iload hx hb hd (zget_at hl hg) kk
theorem wl_aload_n {q : Fin 4} {i : Nat} {x : Option (Nat ⊕ Nat)} (hd : decode Y.2.1 pc = .ok (.aload_n q, 1)) (hp : pc + 1 = pc') (hi : (q : Nat) = i) (hg : zget ls i = some (.inr (.inr x))) (k : WL N xs Y d mc ms n0 Post pc' ls (.inr (.inr x) :: st) w nc ns) : WL N xs Y d mc ms n0 Post pc ls st w nc ns := by
  subst hp
  intro p l e R s m args below meth c G A ad0 Qm C F ad H locs lsA hag hst hl
  have kk := k p l e R s m args below meth c G A ad0 Qm C F ad H locs lsA hag hst hl
  obtain ⟨-, -, hx, hb, -⟩ := C.2
  have hg' := zget_at hl hg
  rcases x with _ | k9 | k9
  · exact lv_aload_nN hx hb hd hi hg' kk
  · exact lv_aload_n hx hb hd hi hg' kk
  · exact lv_aload_n hx hb hd hi hg' kk
theorem wl_istore {i : Nat} {x : Int} {ls' : List (Nat × zV)} (hd : decode Y.2.1 pc = .ok (.istore i, 2)) (hp : pc + 2 = pc') (hn : i < Y.2.2.1) (hl9 : zput1 ls i (zI x) = ls') (k : WL N xs Y d mc ms n0 Post pc' ls' st w nc ns) : WL N xs Y d mc ms n0 Post pc ls (zI x :: st) w nc ns := by
  subst hl9
  subst hp
  intro p l e R s m args below meth c G A ad0 Qm C F ad H locs lsA hag hst hl
  have kk := fun lsA' hl' => k p l e R s m args below meth c G A ad0 Qm C F ad H locs lsA' hag hst hl'
  obtain ⟨-, -, hx, hb, -⟩ := C.2
  exact lv_istore hx hb hd hl hn (zput1_c G.2.2.1 ad ls i (zI x)) (fun lsA' hl' => kk lsA' hl')
theorem wl_iinc {i : Nat} {n x : Int} {ls' : List (Nat × zV)} (hd : decode Y.2.1 pc = .ok (.iinc i n, 3)) (hp : pc + 3 = pc') (hg : zget ls i = some (zI x)) (hn : i < Y.2.2.1) (hl9 : zput1 ls i (zI (x + n)) = ls') (k : WL N xs Y d mc ms n0 Post pc' ls' st w nc ns) : WL N xs Y d mc ms n0 Post pc ls st w nc ns := by
  subst hl9
  subst hp
  intro p l e R s m args below meth c G A ad0 Qm C F ad H locs lsA hag hst hl
  have kk := fun lsA' hl' => k p l e R s m args below meth c G A ad0 Qm C F ad H locs lsA' hag hst hl'
  obtain ⟨-, -, hx, hb, -⟩ := C.2
  have hm : (i, zc G.2.2.1 ad (zI x)) ∈ (i, zc G.2.2.1 ad (zI x)) :: zls G.2.2.1 ad ls := List.mem_cons_self
  have hl2 : lv_has lsA Y.2.2.1 ((i, zc G.2.2.1 ad (zI x)) :: zls G.2.2.1 ad ls) := ⟨hl.1, hl.2.1, fun q hq => by
    rcases List.mem_cons.mp hq with h | h
    · rw [h]; exact zget_at hl hg
    · exact hl.2.2 q h⟩
  refine lv_iinc hx hb hd hl2 (k := 0) rfl (v := Int32.ofInt (x + n)) (by rw [Int32.ofInt_add]) hn rfl (fun lsA' hl' => kk lsA' (zls_sub hl' ?_))
  intro q hq
  rw [← zput1_c] at hq
  rcases List.mem_cons.mp hq with h | h
  · rw [h]; exact List.mem_cons_self
  · obtain ⟨h1, h2⟩ := List.mem_filter.mp h
    exact List.mem_cons_of_mem _ (List.mem_filter.mpr ⟨List.mem_cons_of_mem _ h1, h2⟩)
theorem wl_iconst {n : Int} (hd : decode Y.2.1 pc = .ok (.iconst n, 1)) (hp : pc + 1 = pc') (k : WL N xs Y d mc ms n0 Post pc' ls (zI n :: st) w nc ns) : WL N xs Y d mc ms n0 Post pc ls st w nc ns := by
  subst hp
  intro p l e R s m args below meth c G A ad0 Qm C F ad H locs lsA hag hst hl
  have kk := k p l e R s m args below meth c G A ad0 Qm C F ad H locs lsA hag hst hl
  obtain ⟨-, -, hx, hb, -⟩ := C.2
  exact lv_iconst hx hb hd rfl kk
theorem wl_bipush {n : Int} (hd : decode Y.2.1 pc = .ok (.bipush n, 2)) (hp : pc + 2 = pc') (hv : (Int8.ofInt n).toInt32 = Int32.ofInt n) (k : WL N xs Y d mc ms n0 Post pc' ls (zI n :: st) w nc ns) : WL N xs Y d mc ms n0 Post pc ls st w nc ns := by
  subst hp
  intro p l e R s m args below meth c G A ad0 Qm C F ad H locs lsA hag hst hl
  have kk := k p l e R s m args below meth c G A ad0 Qm C F ad H locs lsA hag hst hl
  obtain ⟨-, -, hx, hb, -⟩ := C.2
  exact lv_bipush hx hb hd hv kk
theorem wl_iadd {a b : Int} (hd : decode Y.2.1 pc = .ok (.iadd, 1)) (hp : pc + 1 = pc') (k : WL N xs Y d mc ms n0 Post pc' ls (zI (a + b) :: st) w nc ns) : WL N xs Y d mc ms n0 Post pc ls (zI b :: zI a :: st) w nc ns := by
  subst hp
  intro p l e R s m args below meth c G A ad0 Qm C F ad H locs lsA hag hst hl
  have kk := k p l e R s m args below meth c G A ad0 Qm C F ad H locs lsA hag hst hl
  obtain ⟨-, -, hx, hb, -⟩ := C.2
  refine lv_iadd hx hb hd ?_
  rw [← Int32.ofInt_add]
  exact kk
theorem wl_isub {a b : Int} (hd : decode Y.2.1 pc = .ok (.isub, 1)) (hp : pc + 1 = pc') (k : WL N xs Y d mc ms n0 Post pc' ls (zI (a - b) :: st) w nc ns) : WL N xs Y d mc ms n0 Post pc ls (zI b :: zI a :: st) w nc ns := by
  subst hp
  intro p l e R s m args below meth c G A ad0 Qm C F ad H locs lsA hag hst hl
  have kk := k p l e R s m args below meth c G A ad0 Qm C F ad H locs lsA hag hst hl
  obtain ⟨-, -, hx, hb, -⟩ := C.2
  refine lv_isub hx hb hd ?_
  rw [← Int32.ofInt_sub]
  exact kk
theorem wl_goto {off : Int} (hd : decode Y.2.1 pc = .ok (.goto off, 3)) (ht : (pc : Int) + off = (pc' : Int)) (k : WL N xs Y d mc ms n0 Post pc' ls st w nc ns) : WL N xs Y d mc ms n0 Post pc ls st w nc ns := by
  intro p l e R s m args below meth c G A ad0 Qm C F ad H locs lsA hag hst hl
  have kk := k p l e R s m args below meth c G A ad0 Qm C F ad H locs lsA hag hst hl
  obtain ⟨-, -, hx, hb, -⟩ := C.2
  exact lv_goto hx hb hd ht kk
theorem wl_icmp_gt {off : Int} {tgt : Nat} {a b : Int} (hd : decode Y.2.1 pc = .ok (.if_icmp .gt off, 3)) (ht : (pc : Int) + off = (tgt : Int)) (hp : pc + 3 = pc') (ha : zin a) (hb9 : zin b) (kt : b < a → WL N xs Y d mc ms n0 Post tgt ls st w nc ns) (kf : ¬ (b < a) → WL N xs Y d mc ms n0 Post pc' ls st w nc ns) : WL N xs Y d mc ms n0 Post pc ls (zI b :: zI a :: st) w nc ns := by
  subst hp
  intro p l e R s m args below meth c G A ad0 Qm C F ad H locs lsA hag hst hl
  have kkt := fun h => kt h p l e R s m args below meth c G A ad0 Qm C F ad H locs lsA hag hst hl
  have kkf := fun h => kf h p l e R s m args below meth c G A ad0 Qm C F ad H locs lsA hag hst hl
  obtain ⟨-, -, hx, hb, -⟩ := C.2
  exact lv_icmp_gt hx hb hd ht (fun h => kkt ((zi_lt hb9 ha).mp h)) (fun h => kkf (fun h2 => h ((zi_lt hb9 ha).mpr h2)))
theorem wl_if_ne {off : Int} {tgt : Nat} {a : Int} (hd : decode Y.2.1 pc = .ok (.ifCond .ne off, 3)) (ht : (pc : Int) + off = (tgt : Int)) (hp : pc + 3 = pc') (ha : zin a) (kt : ¬ a = 0 → WL N xs Y d mc ms n0 Post tgt ls st w nc ns) (kf : a = 0 → WL N xs Y d mc ms n0 Post pc' ls st w nc ns) : WL N xs Y d mc ms n0 Post pc ls (zI a :: st) w nc ns := by
  subst hp
  intro p l e R s m args below meth c G A ad0 Qm C F ad H locs lsA hag hst hl
  have kkt := fun h => kt h p l e R s m args below meth c G A ad0 Qm C F ad H locs lsA hag hst hl
  have kkf := fun h => kf h p l e R s m args below meth c G A ad0 Qm C F ad H locs lsA hag hst hl
  obtain ⟨-, -, hx, hb, -⟩ := C.2
  have z0 : zin 0 := ⟨by omega, by omega⟩
  exact lv_if_ne hx hb hd ht (fun h => kkt (fun h2 => h ((zi_eq ha z0).mpr h2))) (fun h => kkf ((zi_eq ha z0).mp h))
theorem wl_if_eq {off : Int} {tgt : Nat} {a : Int} (hd : decode Y.2.1 pc = .ok (.ifCond .eq off, 3)) (ht : (pc : Int) + off = (tgt : Int)) (hp : pc + 3 = pc') (ha : zin a) (kt : a = 0 → WL N xs Y d mc ms n0 Post tgt ls st w nc ns) (kf : ¬ (a = 0) → WL N xs Y d mc ms n0 Post pc' ls st w nc ns) : WL N xs Y d mc ms n0 Post pc ls (zI a :: st) w nc ns := by
  subst hp
  intro p l e R s m args below meth c G A ad0 Qm C F ad H locs lsA hag hst hl
  have kkt := fun h => kt h p l e R s m args below meth c G A ad0 Qm C F ad H locs lsA hag hst hl
  have kkf := fun h => kf h p l e R s m args below meth c G A ad0 Qm C F ad H locs lsA hag hst hl
  obtain ⟨-, -, hx, hb, -⟩ := C.2
  have z0 : zin 0 := ⟨by omega, by omega⟩
  exact lv_if_eq hx hb hd ht (fun h => kkt ((zi_eq ha z0).mp h)) (fun h => kkf (fun h2 => h ((zi_eq ha z0).mpr h2)))
theorem zl_go {p : Program} {l : Launch} {e : Env} {R : Room} {s : State} {m : MethodId} {args : Array Value} {below : List Frame} {meth : Method} {c : Code} {G : zG} {A : Nat → Prop} {ad0 ad : Nat → Nat} {Qm : State → Prop} {H : Heap} {locs : List Loc} {lsA : Array Slot} {stv : List Value} {a : Array Value}
    (C9 : zCxS N xs Y d mc ms p l R s m meth c G A) (F : zFin Y mc ms n0 Post p l e R s m args below meth c G A ad0 Qm) (hag : n0 ≤ w.length ∧ zAg n0 w.length ad ad0) (hst : zSt G A ad s H locs w) (hl : lv_has lsA Y.2.2.1 (zls G.2.2.1 ad ls))
    (hsub : ρ.map (fun i => w[i]?) = w1.map fun e => some (zre ρ e)) (hn : ρ.Nodup) (hlen : ∀ o w', Post1 o w' → w'.length = w1.length)
    (hr : vx_Run p l e R s m args below meth c H locs nc ns mc1 ms1 (F0 m pc lsA stv) (st.map (zc G.2.2.1 ad)) (zQc G (fun k => ad (ρ.getD k 0)) H.size w1 Post1 a) (zXC G (va_A (zw G (fun k => ad (ρ.getD k 0)) w1) H.size) (fun k => ad (ρ.getD k 0)) w1.length Post1) (va_A (zw G (fun k => ad (ρ.getD k 0)) w1) H.size))
    (kx : ∀ (E : String) (w1' : List zE) (H1 : Heap) (locs1 : List Loc) (q : Addr) (ce : Cell), Post1 (.inr E) w1' → zSt G A ad s H1 locs1 (zins (zre ρ) ρ w1' w) → H1[q]? = some ce → ce.vm = .none → s.vm.findClass E = some ce.cls → vx_W p l e R s m args below meth c H1 locs1 (nc + mc1) (ns + ms1) Qm (F0 m pc lsA (st.map (zc G.2.2.1 ad))) q)
    (k : ∀ (v : Option zV) (w1' : List zE), Post1 (.inl v) w1' → WL N xs Y d mc ms n0 Post (pc + 3) ls ((v.map (zrv ρ)).toList ++ st) (zins (zre ρ) ρ w1' w) (nc + mc1) (ns + ms1)) :
    W p l e R s m args below meth c H locs nc ns Qm (F0 m pc lsA stv) := by
  obtain ⟨hfl, hR, hx, hb, hml, hr9, hown, hlk, hnm, htb, hT, hE, hA⟩ := id C9.2
  obtain ⟨hP, hD, hS⟩ := id hst
  have hF : ∀ q, va_A (zw G (fun k => ad (ρ.getD k 0)) w1) H.size q → A q := z_preA hsub hD hS hA
  intro T hT9 X
  rcases hr T hT9 X with ⟨v, st₀, t, T', L, h0, X', hL, e1, e2, ⟨⟨v1, w1', ad1, hv, hp, hle, hag1, hP1, hD1⟩, hF1⟩, stp⟩ | ⟨q, st₀, t, T', L, E, ce, h0, X', hL, e1, e2, ⟨⟨w1', ad1, hp, hle, hag1, hP1, hD1⟩, hF1⟩, hce, hcv, hcl, stp⟩
  · cases hv
    have hl1 := hlen _ _ hp
    have had : ad1 = fun k => ad (ρ.getD k 0) := by
      funext k
      exact hag1 k (by rw [hl1]; omega)
    subst had
    obtain ⟨k1, k2, k3⟩ := vx_keep h0 e1 hS (fun q _ h => hF q h) hF hL hF1
    have hP2 : va_P G.1 vwCl (zw G ad (zins (zre ρ) ρ w1' w)) T'.heap := z_back hsub hn hl1 hP hD k2 (by rw [e1]; exact hP1)
    have hD2 : va_D A (zw G ad (zins (zre ρ) ρ w1' w)) := zD_len hD (zins_len _ _ _ _)
    have hkk := k v1 w1' hp p l e R s m args below meth c G A ad0 Qm C9 F ad T'.heap (locs ++ L) lsA (by rw [zins_len]; exact hag) ⟨hP2, hD2, k3⟩ hl
    obtain ⟨t2, a1, b1⟩ := hkk T' rfl X'
    refine ⟨t2, stp t2 ?_, b1⟩
    have e9 : (v1.map (zc G.2.2.1 (fun k => ad (ρ.getD k 0)))).toList ++ st.map (zc G.2.2.1 ad) = ((v1.map (zrv ρ)).toList ++ st).map (zc G.2.2.1 ad) := by
      cases v1 with
      | none => rfl
      | some v => simp only [Option.map_some, Option.toList_some, List.cons_append, List.nil_append, List.map_cons, zc_ren]
    rw [e9]
    exact a1
  · have hl1 := hlen _ _ hp
    have had : ad1 = fun k => ad (ρ.getD k 0) := by
      funext k
      exact hag1 k (by rw [hl1]; omega)
    subst had
    obtain ⟨k1, k2, k3⟩ := vx_keep h0 e1 hS (fun q _ h => hF q h) hF hL hF1
    have hP2 : va_P G.1 vwCl (zw G ad (zins (zre ρ) ρ w1' w)) T'.heap := z_back hsub hn hl1 hP hD k2 (by rw [e1]; exact hP1)
    have hD2 : va_D A (zw G ad (zins (zre ρ) ρ w1' w)) := zD_len hD (zins_len _ _ _ _)
    obtain ⟨t2, a1, b1⟩ := kx E w1' T'.heap (locs ++ L) q ce hp ⟨hP2, hD2, k3⟩ (by rw [e1]; exact hce) hcv hcl T' rfl X'
    exact ⟨t2, stp.trans a1, b1⟩
theorem wl_callV {q ci : Nat} {fs : List zV} {vc : vw_C} {idx n : Nat} (M : zMet Y1 d1 mc1 ms1 (zR q :: as) w1 Post1) (hO : zOkV Y1 n) (hlink : Cond.methodLink Y.1.cls idx Y1.1 ∈ lw_tbl) (hd : decode Y.2.1 pc = .ok (.invokevirtual idx, 3)) (hp : pc + 3 = pc') (ρ : List Nat) (hsub : ρ.map (fun i => w[i]?) = w1.map fun e => some (zre ρ e)) (hn : ρ.Nodup) (hstk : (as.map (zrv ρ)).reverse ++ zR (ρ.getD q 0) :: st = stk) (hna : as.length = n) (hq : w1[q]? = some (zO ci fs)) (hvc : vwCl[ci]? = some vc) (hcls : vc.1 = Y1.1.cls) (hd1 : d1 + 1 ≤ d) (hcat : (st.map zcat).sum ≤ 8) (hh : Y.2.2.2.2 = []) (hmc : nc + mc1 ≤ mc) (hms : ns + ms1 ≤ ms) (hlen : ∀ o w', Post1 o w' → w'.length = w1.length)
    (kx : ∀ (E : String) (w1' : List zE), ¬ Post1 (.inr E) w1')
    (k : ∀ (v : Option zV) (w1' : List zE), Post1 (.inl v) w1' → WL N xs Y d mc ms n0 Post pc' ls ((v.map (zrv ρ)).toList ++ st) (zins (zre ρ) ρ w1' w) (nc + mc1) (ns + ms1)) : WL N xs Y d mc ms n0 Post pc ls stk w nc ns := by
  subst hp
  subst hstk
  intro p l e R s m args below meth c G A ad0 Qm C9 F ad H locs lsA hag hst hl
  obtain ⟨hfl, hR, hx, hb, hml, hr9, hown, hlk, hnm, htb, hT, hE, hA⟩ := id C9.2
  refine zl_go C9 F hag hst hl hsub hn hlen (a := ((zR q :: as).map (zc G.2.2.1 (fun k => ad (ρ.getD k 0)))).toArray) ?_ (fun E w1' H1 locs1 q ce hp1 hst1 hce hcv hcl => absurd hp1 (kx E w1')) k
  refine vx_runV (As := as.map (zc G.2.2.1 (fun k => ad (ρ.getD k 0)))) (b := ad (ρ.getD q 0)) (C := Y1.1.cls) (cc := Y.2.1) (nL := Y.2.2.1) (Ts := []) ⟨hx, hb, hml, hown, fun _ h => nomatch h⟩ (M l G (fun k => ad (ρ.getD k 0)) H.size hfl) ⟨z_cb hO.1 hT hlink hd1 hR, hT.at hO.2.1 (zgood_c _ rfl) _, hT.at hO.2.2 (zgood_c _ rfl) _⟩ ⟨(z_pre hsub hn hst hE hT hA).1, ?_, (z_pre (as := zR q :: as) hsub hn hst hE hT hA).2⟩ rfl (by rw [List.length_map]; exact hna) hl.1 ?_ (lv_room (z_cat hcat)) hd ⟨by omega, by omega⟩
  · obtain ⟨cell, g1, g2, g3⟩ := va_recv hE.1.1 (z_partP (ad := ad) hsub hst.1) hvc (zw_get hq)
    exact ⟨cell, g1, g2, by rw [← hcls]; exact g3⟩
  · show List.map _ _ = _
    rw [List.map_append, List.map_reverse, z_map]
    rfl
theorem wl_laload {k n : Nat} {f : Int → Int} {i : Int} (hd : decode Y.2.1 pc = .ok (.laload, 1)) (hp : pc + 1 = pc') (he : w[k]? = some (zA 2 n f)) (h0 : 0 ≤ i) (h1 : i < n) (hn : n < 2147483648) (k9 : WL N xs Y d mc ms n0 Post pc' ls (zJ (f i) :: st) w nc ns) : WL N xs Y d mc ms n0 Post pc ls (zI i :: zR k :: st) w nc ns := by
  subst hp
  intro p l e R s m args below meth c G A ad0 Qm C9 F ad H locs lsA hag hst hl
  obtain ⟨hfl, hR, hx, hb, hml, hr, hown, hlk, hnm, htb, hT, hE, hA⟩ := id C9.2
  obtain ⟨hP, hD, hS⟩ := id hst
  have kk := k9 p l e R s m args below meth c G A ad0 Qm C9 F ad H locs lsA hag hst hl
  refine va_lald hx hb hE.1.1 hP k 2 (zw_get he) rfl (zi_vp h0 h1 hn) hd ?_
  have e9 : ((Int32.ofInt i).toNatClampNeg : Int) = i := by rw [zi_cl ⟨by omega, by omega⟩]; omega
  simp only [e9]
  exact kk
theorem wl_ret {v : Option zV} (hpost : Post (.inl v) w) (hr : zRet Y pc v) (hc : nc ≤ mc) (hs : ns ≤ ms) {st : List zV} (hst : v.toList = st) : WL N xs Y d mc ms n0 Post pc ls st w nc ns := by
  subst hst
  intro p l e R s m args below meth c G A ad0 Qm C9 F ad H locs lsA hag hst hl
  exact F.1 v w ad H locs lsA pc nc ns hpost hr hc hs hag.1 hag.2 hst
theorem wl_iand {a b : Int} (hd : decode Y.2.1 pc = .ok (.iand, 1)) (hp : pc + 1 = pc') (k : WL N xs Y d mc ms n0 Post pc' ls (zI (zand a b) :: st) w nc ns) : WL N xs Y d mc ms n0 Post pc ls (zI b :: zI a :: st) w nc ns := by
  subst hp
  intro p l e R s m args below meth c G A ad0 Qm C F ad H locs lsA hag hst hl
  have kk := k p l e R s m args below meth c G A ad0 Qm C F ad H locs lsA hag hst hl
  obtain ⟨-, hR, hx, hb, hml, -, hown, -, -, -, hT, hE, -⟩ := C.2
  refine lv_iand hx hb hd ?_
  have e9 : zc G.2.2.1 ad (zI (zand a b)) = .int _ := congrArg Value.int (Int32.ofInt_toInt _)
  rw [← e9]
  exact kk
theorem wl_lcmpE {a b : Int} (hd : decode Y.2.1 pc = .ok (.lcmp, 1)) (hp : pc + 1 = pc') (hab : a = b) (k : WL N xs Y d mc ms n0 Post pc' ls (zI 0 :: st) w nc ns) : WL N xs Y d mc ms n0 Post pc ls (zJ b :: zJ a :: st) w nc ns := by
  subst hp
  intro p l e R s m args below meth c G A ad0 Qm C F ad H locs lsA hag hst hl
  have kk := k p l e R s m args below meth c G A ad0 Qm C F ad H locs lsA hag hst hl
  obtain ⟨-, hR, hx, hb, hml, -, hown, -, -, -, hT, hE, -⟩ := C.2
  subst hab
  refine W.lcmp hx hb hd ?_
  have e9 : lg_cmp (Int64.ofInt a) (Int64.ofInt a) = Int32.ofInt 0 := by simp [lg_cmp]
  rw [e9]
  exact kk
theorem wl_zret {n : Int} (hd : decode Y.2.1 pc = .ok (.ireturn, 1)) (hr : Y.2.2.2.1 = some .boolean) (hc : nc ≤ mc) (hs : ns ≤ ms) (hz : n = 0 ∨ n = 1) (hpost : Post (.inl (some (zI n))) w) : WL N xs Y d mc ms n0 Post pc ls [zI n] w nc ns := wl_ret (v := some (zI n)) hpost ⟨hd, Or.inr (Or.inl ⟨hr, hz⟩)⟩ hc hs rfl
theorem wl_tabIn {a dflt lo hi off : Int} {offs : Array Int} {len tgt : Nat} (hd : decode Y.2.1 pc = .ok (.tableswitch dflt lo hi offs, len)) (ha : zin a) (h1 : ¬ a < lo) (h2 : ¬ hi < a) (ho : offs[(a - lo).toNat]? = some off) (ht : (pc : Int) + off = (tgt : Int)) (k : WL N xs Y d mc ms n0 Post tgt ls st w nc ns) : WL N xs Y d mc ms n0 Post pc ls (zI a :: st) w nc ns := by
  intro p l e R s m args below meth c G A ad0 Qm C F ad H locs lsA hag hst hl
  have kk := k p l e R s m args below meth c G A ad0 Qm C F ad H locs lsA hag hst hl
  obtain ⟨-, -, hx, hb, -⟩ := C.2
  exact lv_tableIn hx hb hd (by rw [zin_t ha]; exact h1) (by rw [zin_t ha]; exact h2) (by rw [zin_t ha]; exact ho) ht kk
theorem wl_tabOut {a dflt lo hi : Int} {offs : Array Int} {len tgt : Nat} (hd : decode Y.2.1 pc = .ok (.tableswitch dflt lo hi offs, len)) (ha : zin a) (h : a < lo ∨ hi < a) (ht : (pc : Int) + dflt = (tgt : Int)) (k : WL N xs Y d mc ms n0 Post tgt ls st w nc ns) : WL N xs Y d mc ms n0 Post pc ls (zI a :: st) w nc ns := by
  intro p l e R s m args below meth c G A ad0 Qm C F ad H locs lsA hag hst hl
  have kk := k p l e R s m args below meth c G A ad0 Qm C F ad H locs lsA hag hst hl
  obtain ⟨-, -, hx, hb, -⟩ := C.2
  exact lv_tableOut hx hb hd (by rw [zin_t ha]; exact h) ht kk
theorem wl_i2lG {a : Int} (hd : decode Y.2.1 pc = .ok (.i2l, 1)) (hp : pc + 1 = pc') (k : WL N xs Y d mc ms n0 Post pc' ls (zJ (Int32.ofInt a).toInt :: st) w nc ns) : WL N xs Y d mc ms n0 Post pc ls (zI a :: st) w nc ns := by
  subst hp
  intro p l e R s m args below meth c G A ad0 Qm C F ad H locs lsA hag hst hl
  have kk := k p l e R s m args below meth c G A ad0 Qm C F ad H locs lsA hag hst hl
  obtain ⟨-, -, hx, hb, -⟩ := C.2
  exact lv_i2l hx hb hd rfl kk
theorem wl_callSH {idx n : Nat} {h1 : Nat × Nat × Nat × Nat} {ht : List (Nat × Nat × Nat × Nat)} (M : zMet Y1 d1 mc1 ms1 as w1 Post1) (hO : zOkH Y1 n) (hhY : Y1.2.2.2.2 = h1 :: ht) (hlink : Cond.methodLink Y.1.cls idx Y1.1 ∈ lw_tbl) (hd : decode Y.2.1 pc = .ok (.invokestatic idx, 3)) (hp : pc + 3 = pc') (ρ : List Nat) (hsub : ρ.map (fun i => w[i]?) = w1.map fun e => some (zre ρ e)) (hn : ρ.Nodup) (hstk : (as.map (zrv ρ)).reverse ++ st = stk) (hna : as.length = n) (hd1 : d1 + 1 ≤ d) (hcat : (st.map zcat).sum ≤ 8) (hmc : nc + mc1 ≤ mc) (hms : ns + ms1 ≤ ms) (hlen : ∀ o w', Post1 o w' → w'.length = w1.length)
    (kx : ∀ (E : String) (w1' : List zE), ¬ Post1 (.inr E) w1')
    (k : ∀ (v : Option zV) (w1' : List zE), Post1 (.inl v) w1' → WL N xs Y d mc ms n0 Post pc' ls ((v.map (zrv ρ)).toList ++ st) (zins (zre ρ) ρ w1' w) (nc + mc1) (ns + ms1)) : WL N xs Y d mc ms n0 Post pc ls stk w nc ns := by
  subst hp
  subst hstk
  intro p l e R s m args below meth c G A ad0 Qm C9 F ad H locs lsA hag hst hl
  obtain ⟨hfl, hR, hx, hb, hml, hr9, hown, hlk, hnm, htb, hT, hE, hA⟩ := id C9.2
  refine zl_go C9 F hag hst hl hsub hn hlen (a := (as.map (zc G.2.2.1 (fun k => ad (ρ.getD k 0)))).toArray) ?_ (fun E w1' H1 locs1 q ce hp1 hst1 hce hcv hcl => absurd hp1 (kx E w1')) k
  have hw : zwd Y1 = .codeWith Y1.1 Y1.2.1 Y1.2.2.1 Y1.2.2.2.1 Y1.2.2.2.2 := by unfold zwd; rw [hhY]
  obtain ⟨g1, g2, g3, g4, g5, g6⟩ := hO
  have hcw : vx_CSW R s args Y.1.cls idx Y1.1 Y1.2.1 Y1.2.2.1 Y1.2.2.2.1 Y1.2.2.2.2 [zwd Y1] (zRm d1 mc1 ms1) mc1 ms1 n := by
    refine ⟨⟨rfl, rfl, by show d1 + 1 ≤ R.frames; omega, by show 8 + (Y1.2.2.1 + 11) + 34 * d1 ≤ R.locals; omega, fun w hw9 a' U hW => ?_, by rw [hw]; exact List.mem_cons_self⟩, ?_, hT.at g2 (zgood_c _ rfl) _, g3, fun sig h => ?_, hT.at hlink (zgood_c _ rfl) _, hT.at g6 (zgood_c _ rfl) _⟩
    · rw [List.mem_singleton] at hw9
      subst hw9
      exact (zTab_warm hW hT).at g1 (zgood_c _ (zwd_good Y1)) _
    · rw [← hw]
      exact hT.at g1 (zgood_c _ (zwd_good Y1)) _
    · rw [h] at g4
      exact (Option.some.inj g4).symm
  refine vx_runSX (As := as.map (zc G.2.2.1 (fun k => ad (ρ.getD k 0)))) (cc := Y.2.1) (nL := Y.2.2.1) (Ts := []) ⟨hx, hb, hml, hown, fun _ h => nomatch h⟩ (M l G (fun k => ad (ρ.getD k 0)) H.size hfl) hcw (z_pre hsub hn hst hE hT hA) rfl (by rw [List.length_map]; exact hna) hl.1 ?_ (lv_room (z_cat hcat)) hd ⟨by omega, by omega⟩
  · show List.map _ _ = _
    rw [List.map_append, List.map_reverse, z_map]
/-- equal ints -/
theorem wl_icmpE {off : Int} {tgt : Nat} {a b : Int} (hd : decode Y.2.1 pc = .ok (.if_icmp .eq off, 3)) (ht : (pc : Int) + off = (tgt : Int)) (hab : a = b) (kt : WL N xs Y d mc ms n0 Post tgt ls st w nc ns) : WL N xs Y d mc ms n0 Post pc ls (zI b :: zI a :: st) w nc ns := by
  subst hab
  intro p l e R s m args below meth c G A ad0 Qm C F ad H locs lsA hag hst hl
  have kkt := kt p l e R s m args below meth c G A ad0 Qm C F ad H locs lsA hag hst hl
  obtain ⟨-, -, hx, hb, -⟩ := C.2
  exact lv_icmp_eq hx hb hd ht (fun _ => kkt) (fun h => absurd rfl h)
/-- the script's length -/
theorem wl_slen (hd : decode Y.2.1 pc = .ok (.arraylength, 1)) (hp : pc + 1 = pc') (k9 : WL N xs Y d mc ms n0 Post pc' ls (zI N :: st) w nc ns) : WL N xs Y d mc ms n0 Post pc ls (zK 50 :: st) w nc ns := by
  subst hp
  intro p l e R s m args below meth c G A ad0 Qm C9 F ad H locs lsA hag hst hl
  obtain ⟨hfl, hR, hx, hb, hml, hr, hown, hlk, hnm, htb, hT, hE, hA⟩ := id C9.2
  obtain ⟨hP, hD, hS⟩ := id hst
  have kk := k9 p l e R s m args below meth c G A ad0 Qm C9 F ad H locs lsA hag hst hl
  refine va_tlen hx hb hE.2.2.2.1.2 hS ?_ hd kk
  rw [C9.1.1]
  exact Int32.ofInt_eq_ofNat.symm
/-- an int of the script -/
theorem wl_sload {i : Int} (hd : decode Y.2.1 pc = .ok (.iaload, 1)) (hp : pc + 1 = pc') (h0 : 0 ≤ i) (h1 : i < N) (hN : N < 2147483648) (k9 : WL N xs Y d mc ms n0 Post pc' ls (zI (xs i.toNat).toInt :: st) w nc ns) : WL N xs Y d mc ms n0 Post pc ls (zI i :: zK 50 :: st) w nc ns := by
  subst hp
  intro p l e R s m args below meth c G A ad0 Qm C9 F ad H locs lsA hag hst hl
  obtain ⟨hfl, hR, hx, hb, hml, hr, hown, hlk, hnm, htb, hT, hE, hA⟩ := id C9.2
  obtain ⟨hP, hD, hS⟩ := id hst
  have kk := k9 p l e R s m args below meth c G A ad0 Qm C9 F ad H locs lsA hag hst hl
  have hTb := hE.2.2.2.1.2
  rw [C9.1.1] at hTb
  refine va_ti hx hb hTb hS (zi_vp h0 h1 hN) (v := .int (Int32.ofInt (xs i.toNat).toInt)) ?_ hd kk
  rw [zi_cl ⟨by omega, by omega⟩, C9.1.2, Int32.ofInt_toInt]
end ZWL
