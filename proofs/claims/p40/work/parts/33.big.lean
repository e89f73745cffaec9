/-! calls on the whole world -/
def zX (o : zP) (w2 : List zE) : zP → List zE → Prop := fun o' w' => o' = o ∧ w' = w2
theorem zre_id {n : Nat} {e : zE} (h : zoke n e) : zre (List.range n) e = e := by
  have h0 : ∀ k, k < n → (List.range n).getD k 0 = k := by
    intro k hk
    rw [List.getD_eq_getElem?_getD, List.getElem?_range hk]
    rfl
  rcases e with a | ⟨m, f⟩ | ⟨c, fs⟩
  · rfl
  · have e1 : (fun j => (f j).map fun k => (List.range n).getD k 0) = f := by
      funext j
      cases hf : f j with
      | none => rfl
      | some k =>
        show some ((List.range n).getD k 0) = some k
        rw [h0 k (h j k hf)]
    show Sum.inr (Sum.inl (m, _)) = _
    rw [e1]
  · have e1 : fs.map (zrv (List.range n)) = fs := by
      have e2 : fs.map (zrv (List.range n)) = fs.map id := by
        apply List.map_congr_left
        intro v hv
        have h1 := List.all_eq_true.mp h v hv
        rcases v with x | x | _ | k | k
        · rfl
        · rfl
        · rfl
        · show zR ((List.range n).getD k 0) = zR k
          rw [h0 k (zokv_lt h1)]
        · rfl
      rw [e2, List.map_id]
    show Sum.inr (Sum.inr (c, _)) = _
    rw [e1]
theorem hsub_id {w : List zE} (h : zokw w.length w) : (List.range w.length).map (fun i => w[i]?) = w.map fun e => some (zre (List.range w.length) e) := by
  apply List.ext_getElem?
  intro i
  rw [List.getElem?_map, List.getElem?_map]
  by_cases hi : i < w.length
  · rw [List.getElem?_range hi, List.getElem?_eq_getElem hi]
    show some w[i]? = some (some (zre (List.range w.length) w[i]))
    rw [List.getElem?_eq_getElem hi, zre_id (zokw_at h (List.getElem?_eq_getElem hi))]
  · rw [List.getElem?_eq_none (by rw [List.length_range]; omega), List.getElem?_eq_none (by omega)]
    rfl
theorem zins_idw {w w2 : List zE} (hl : w2.length = w.length) (h : zokw w.length w2) : zins (zre (List.range w.length)) (List.range w.length) w2 w = w2 := by
  apply List.ext_getElem?
  intro i
  by_cases hi : i < w.length
  · have h2 : w2[i]? = some w2[i] := List.getElem?_eq_getElem (by omega)
    rw [zins_in _ _ _ _ i i _ List.nodup_range (List.getElem?_range hi) h2 hi, h2, zre_id (zokw_at h h2)]
  · rw [List.getElem?_eq_none (by rw [zins_len]; omega), List.getElem?_eq_none (by omega)]
section ZBIG
variable {Y Y1 : zY} {d d1 mc ms mc1 ms1 n0 : Nat} {Post Post1 : zP → List zE → Prop} {pc pc' : Nat} {ls : List (Nat × zV)} {st stk as : List zV} {w w1 w2 : List zE} {nc ns : Nat}
theorem wa_tR {q ci : Nat} {fs : List zV} {vc : vw_C} {idx n : Nat} {v : Option zV} {st' : List zV} {P : Prop} {E : String} (M : zMet Y1 d1 mc1 ms1 (zR q :: as) w (zT P v w E w)) (hO : zOkV Y1 n) (hlink : Cond.methodLink Y.1.cls idx Y1.1 ∈ lw_tbl) (hd : decode Y.2.1 pc = .ok (.invokevirtual idx, 3)) (hp : pc + 3 = pc') (hok : zokw w.length w) (hstk : (as.map (zrv (List.range w.length))).reverse ++ zR ((List.range w.length).getD q 0) :: st = stk) (hna : as.length = n) (hq : w[q]? = some (zO ci fs)) (hvc : vwCl[ci]? = some vc) (hcls : vc.1 = Y1.1.cls) (hd1 : d1 + 1 ≤ d) (hcat : (st.map zcat).sum ≤ 8) (hh : Y.2.2.2.2 = []) (hmc : nc + mc1 ≤ mc) (hms : ns + ms1 ≤ ms) (hv : (v.map (zrv (List.range w.length))).toList ++ st = st')
    (kx : ¬ P → Post (.inr E) w) (k : P → Wa Y d mc ms n0 Post pc' ls st' w (nc + mc1) (ns + ms1)) : Wa Y d mc ms n0 Post pc ls stk w nc ns :=
  wa_tV M hO hlink hd hp (List.range w.length) (hsub_id hok) List.nodup_range hstk hna hq hvc hcls hd1 hcat hh hmc hms rfl (zins_id (hsub_id hok) List.nodup_range) hv kx k
theorem wa_rI {q ci : Nat} {fs : List zV} {vc : vw_C} {idx n : Nat} {v : Option zV} {st' : List zV} (M : zMet Y1 d1 0 0 (zR q :: as) w (zD v w)) (hO : zOkV Y1 n) (hlink : Cond.methodLink Y.1.cls idx Y1.1 ∈ lw_tbl) (hd : decode Y.2.1 pc = .ok (.invokevirtual idx, 3)) (hp : pc + 3 = pc') (hok : zokw w.length w) (hstk : (as.map (zrv (List.range w.length))).reverse ++ zR ((List.range w.length).getD q 0) :: st = stk) (hna : as.length = n) (hq : w[q]? = some (zO ci fs)) (hvc : vwCl[ci]? = some vc) (hcls : vc.1 = Y1.1.cls) (hd1 : d1 + 1 ≤ d) (hcat : (st.map zcat).sum ≤ 8) (hh : Y.2.2.2.2 = []) (hmc : nc ≤ mc) (hms : ns ≤ ms) (hv : (v.map (zrv (List.range w.length))).toList ++ st = st')
    (k : Wa Y d mc ms n0 Post pc' ls st' w nc ns) : Wa Y d mc ms n0 Post pc ls stk w nc ns :=
  wa_rV M hO hlink hd hp (List.range w.length) (hsub_id hok) List.nodup_range hstk hna hq hvc hcls hd1 hcat hh hmc hms hv k
theorem wa_iD {q ci : Nat} {fs : List zV} {vc : vw_C} {idx n : Nat} {v : Option zV} {st' : List zV} (M : zMet Y1 d1 0 0 (zR q :: as) w (zD v w2)) (hO : zOkV Y1 n) (hlink : Cond.methodLink Y.1.cls idx Y1.1 ∈ lw_tbl) (hd : decode Y.2.1 pc = .ok (.invokevirtual idx, 3)) (hp : pc + 3 = pc') (hok : zokw w.length w) (hl2 : w2.length = w.length) (hok2 : zokw w.length w2) (hstk : (as.map (zrv (List.range w.length))).reverse ++ zR ((List.range w.length).getD q 0) :: st = stk) (hna : as.length = n) (hq : w[q]? = some (zO ci fs)) (hvc : vwCl[ci]? = some vc) (hcls : vc.1 = Y1.1.cls) (hd1 : d1 + 1 ≤ d) (hcat : (st.map zcat).sum ≤ 8) (hh : Y.2.2.2.2 = []) (hmc : nc ≤ mc) (hms : ns ≤ ms) (hv : (v.map (zrv (List.range w.length))).toList ++ st = st')
    (k : Wa Y d mc ms n0 Post pc' ls st' w2 nc ns) : Wa Y d mc ms n0 Post pc ls stk w nc ns :=
  wa_dV M hO hlink hd hp (List.range w.length) (hsub_id hok) List.nodup_range hstk hna hq hvc hcls hd1 hcat hh hmc hms hl2 (zins_idw hl2 hok2) hv k
theorem wC_ok (t nm : zRw) (s D : zSh) (H : Nat → zSh) (ol ct : Int) (k : zKd) (y : zLy) (si fl wi : Int) : zokw 53 (wC t nm s D H ol ct k y si fl wi) := ⟨rfl, rfl, trivial, rfl, trivial, rfl, trivial, trivial, trivial, rfl, trivial, trivial, trivial, rfl, hQC_ok _ rfl, rfl, trivial, trivial, trivial, rfl, trivial, trivial, trivial, rfl, trivial, trivial, trivial, rfl, trivial, trivial, trivial, rfl, trivial, trivial, trivial, rfl, trivial, trivial, trivial, rfl, trivial, trivial, trivial, rfl, trivial, trivial, trivial, rfl, rfl, rfl, trivial, rfl, trivial, trivial⟩
theorem hq38 : (fun j => (hQ0 j).map fun k => ((13 :: 14 :: 15 :: 16 :: 17 :: 18 :: 19 :: 20 :: 21 :: 22 :: 23 :: 24 :: 25 :: 26 :: 27 :: 28 :: 29 :: 30 :: 31 :: 32 :: 33 :: 34 :: 35 :: 36 :: 37 :: 38 :: 39 :: 40 :: 41 :: 42 :: 43 :: 44 :: 45 :: 46 :: 5 :: 6 :: 7 :: 8 :: []) : List Nat).getD k 0) = hQC := by
  funext j
  unfold hQC hQ0
  (repeat' split) <;> rfl
theorem hsub_k (t nm : zRw) (s D : zSh) (H : Nat → zSh) (ol ct : Int) (k : zKd) (y : zLy) (si fl wi : Int) : ((13 :: 14 :: 15 :: 16 :: 17 :: 18 :: 19 :: 20 :: 21 :: 22 :: 23 :: 24 :: 25 :: 26 :: 27 :: 28 :: 29 :: 30 :: 31 :: 32 :: 33 :: 34 :: 35 :: 36 :: 37 :: 38 :: 39 :: 40 :: 41 :: 42 :: 43 :: 44 :: 45 :: 46 :: 5 :: 6 :: 7 :: 8 :: []) : List Nat).map (fun i => (wC t nm s D H ol ct k y si fl wi)[i]?) = (wHs H ol ct s).map fun e => some (zre ((13 :: 14 :: 15 :: 16 :: 17 :: 18 :: 19 :: 20 :: 21 :: 22 :: 23 :: 24 :: 25 :: 26 :: 27 :: 28 :: 29 :: 30 :: 31 :: 32 :: 33 :: 34 :: 35 :: 36 :: 37 :: 38 :: 39 :: 40 :: 41 :: 42 :: 43 :: 44 :: 45 :: 46 :: 5 :: 6 :: 7 :: 8 :: []) : List Nat) e) := by
  have e9 : zre ((13 :: 14 :: 15 :: 16 :: 17 :: 18 :: 19 :: 20 :: 21 :: 22 :: 23 :: 24 :: 25 :: 26 :: 27 :: 28 :: 29 :: 30 :: 31 :: 32 :: 33 :: 34 :: 35 :: 36 :: 37 :: 38 :: 39 :: 40 :: 41 :: 42 :: 43 :: 44 :: 45 :: 46 :: 5 :: 6 :: 7 :: 8 :: []) : List Nat) (zQ 8 hQ0) = zQ 8 hQC := by
    show zQ 8 (fun j => (hQ0 j).map fun k => ((13 :: 14 :: 15 :: 16 :: 17 :: 18 :: 19 :: 20 :: 21 :: 22 :: 23 :: 24 :: 25 :: 26 :: 27 :: 28 :: 29 :: 30 :: 31 :: 32 :: 33 :: 34 :: 35 :: 36 :: 37 :: 38 :: 39 :: 40 :: 41 :: 42 :: 43 :: 44 :: 45 :: 46 :: 5 :: 6 :: 7 :: 8 :: []) : List Nat).getD k 0) = _
    rw [hq38]
  simp only [wHs, List.map_cons (a := zQ 8 hQ0), List.map_cons, List.map_nil, e9]
  rfl
theorem zins_of {f : zE → zE} {ρ : List Nat} {es w wN : List zE} (hn : ρ.Nodup) (hsub : ρ.map (fun i => wN[i]?) = es.map fun e => some (f e)) (hl : wN.length = w.length) (hoff : ∀ k, k ∉ ρ → wN[k]? = w[k]?) : zins f ρ es w = wN := by
  have hρl : ρ.length = es.length := by have := congrArg List.length hsub; simpa using this
  apply List.ext_getElem?
  intro k
  by_cases hk : k ∈ ρ
  · obtain ⟨j, hj⟩ := List.getElem?_of_mem hk
    have hjl : j < es.length := by rw [← hρl]; exact (List.getElem?_eq_some_iff.mp hj).1
    have h2 : (ρ.map (fun i => wN[i]?))[j]? = (es.map fun e => some (f e))[j]? := by rw [hsub]
    rw [List.getElem?_map, hj, List.getElem?_map, List.getElem?_eq_getElem hjl] at h2
    have h3 : wN[k]? = some (f es[j]) := Option.some.inj h2
    rw [zins_in f ρ es w j k _ hn hj (List.getElem?_eq_getElem hjl) (by rw [← hl]; exact (List.getElem?_eq_some_iff.mp h3).1), h3]
  · rw [zins_out _ _ _ _ _ hk, hoff k hk]
theorem zoff38b : (List.range 53).all (fun k => List.contains ((13 :: 14 :: 15 :: 16 :: 17 :: 18 :: 19 :: 20 :: 21 :: 22 :: 23 :: 24 :: 25 :: 26 :: 27 :: 28 :: 29 :: 30 :: 31 :: 32 :: 33 :: 34 :: 35 :: 36 :: 37 :: 38 :: 39 :: 40 :: 41 :: 42 :: 43 :: 44 :: 45 :: 46 :: 5 :: 6 :: 7 :: 8 :: []) : List Nat) k || List.contains [0, 1, 2, 3, 4, 9, 10, 11, 12, 47, 48, 49, 50, 51, 52] k) = true := by decide
theorem zoff38 (k : Nat) (h : k < 53) (hk : k ∉ ((13 :: 14 :: 15 :: 16 :: 17 :: 18 :: 19 :: 20 :: 21 :: 22 :: 23 :: 24 :: 25 :: 26 :: 27 :: 28 :: 29 :: 30 :: 31 :: 32 :: 33 :: 34 :: 35 :: 36 :: 37 :: 38 :: 39 :: 40 :: 41 :: 42 :: 43 :: 44 :: 45 :: 46 :: 5 :: 6 :: 7 :: 8 :: []) : List Nat)) : k ∈ [0, 1, 2, 3, 4, 9, 10, 11, 12, 47, 48, 49, 50, 51, 52] := by
  have h1 := List.all_eq_true.mp zoff38b k (List.mem_range.mpr h)
  rw [Bool.or_eq_true, List.contains_iff_mem, List.contains_iff_mem] at h1
  exact h1.resolve_left hk
theorem zins_k (t nm : zRw) (s D : zSh) (H : Nat → zSh) (ol ct : Int) (k : zKd) (y : zLy) (si fl wi : Int) (H2 : Nat → zSh) (ol2 ct2 : Int) (s2 : zSh) : zins (zre ((13 :: 14 :: 15 :: 16 :: 17 :: 18 :: 19 :: 20 :: 21 :: 22 :: 23 :: 24 :: 25 :: 26 :: 27 :: 28 :: 29 :: 30 :: 31 :: 32 :: 33 :: 34 :: 35 :: 36 :: 37 :: 38 :: 39 :: 40 :: 41 :: 42 :: 43 :: 44 :: 45 :: 46 :: 5 :: 6 :: 7 :: 8 :: []) : List Nat)) ((13 :: 14 :: 15 :: 16 :: 17 :: 18 :: 19 :: 20 :: 21 :: 22 :: 23 :: 24 :: 25 :: 26 :: 27 :: 28 :: 29 :: 30 :: 31 :: 32 :: 33 :: 34 :: 35 :: 36 :: 37 :: 38 :: 39 :: 40 :: 41 :: 42 :: 43 :: 44 :: 45 :: 46 :: 5 :: 6 :: 7 :: 8 :: []) : List Nat) (wHs H2 ol2 ct2 s2) (wC t nm s D H ol ct k y si fl wi) = wC t nm s2 D H2 ol2 ct2 k y si fl wi := by
  refine zins_of (by decide) (hsub_k t nm s2 D H2 ol2 ct2 k y si fl wi) rfl ?_
  intro j hj
  by_cases h53 : j < 53
  · have h9 := zoff38 j h53 hj
    simp only [List.mem_cons, List.not_mem_nil, or_false] at h9
    rcases h9 with rfl | rfl | rfl | rfl | rfl | rfl | rfl | rfl | rfl | rfl | rfl | rfl | rfl | rfl | rfl <;> rfl
  · rw [List.getElem?_eq_none (show (wC t nm s2 D H2 ol2 ct2 k y si fl wi).length ≤ j from Nat.le_of_not_lt h53), List.getElem?_eq_none (show (wC t nm s D H ol ct k y si fl wi).length ≤ j from Nat.le_of_not_lt h53)]
theorem wa_keepC {t nm : zRw} {s D : zSh} {H : Nat → zSh} {ol ct : Int} {k : zKd} {y : zLy} {si fl wi : Int} {idx : Nat} (ho : 0 ≤ ol ∧ ol < 8) (hs : okS s) (hc : 0 ≤ ct ∧ ct ≤ 8) (hlink : Cond.methodLink Y.1.cls idx q_X1_keep.1 ∈ lw_tbl) (hd : decode Y.2.1 pc = .ok (.invokevirtual idx, 3)) (hp : pc + 3 = pc') (hd1 : 3 ≤ d) (hcat : (st.map zcat).sum ≤ 8) (hh : Y.2.2.2.2 = []) (hmc : nc ≤ mc) (hms : ns ≤ ms)
    (k9 : Wa Y d mc ms n0 Post pc' ls st (wC t nm s D (hup H ((ol + ct) % 8).toNat s) (if ct < 8 then ol else (ol + 1) % 8) (if ct < 8 then ct + 1 else ct) k y si fl wi) nc ns) : Wa Y d mc ms n0 Post pc ls (zR 5 :: zR 13 :: st) (wC t nm s D H ol ct k y si fl wi) nc ns :=
  wa_dV (k_X1_keep H ol ct s ho hs hc) ok_X1_keep hlink hd hp ((13 :: 14 :: 15 :: 16 :: 17 :: 18 :: 19 :: 20 :: 21 :: 22 :: 23 :: 24 :: 25 :: 26 :: 27 :: 28 :: 29 :: 30 :: 31 :: 32 :: 33 :: 34 :: 35 :: 36 :: 37 :: 38 :: 39 :: 40 :: 41 :: 42 :: 43 :: 44 :: 45 :: 46 :: 5 :: 6 :: 7 :: 8 :: []) : List Nat) (hsub_k t nm s D H ol ct k y si fl wi) (by decide) rfl rfl rfl rfl rfl hd1 hcat hh hmc hms rfl (zins_k t nm s D H ol ct k y si fl wi _ _ _ _) rfl k9
theorem wa_restC {t nm : zRw} {s D : zSh} {H : Nat → zSh} {ol ct : Int} {k : zKd} {y : zLy} {si fl wi : Int} {idx : Nat} (ho : 0 ≤ ol ∧ ol < 8) (hc : 1 ≤ ct ∧ ct ≤ 8) (hH : ∀ i : Nat, i < 8 → okS (H i)) (hlink : Cond.methodLink Y.1.cls idx q_X1_restore.1 ∈ lw_tbl) (hd : decode Y.2.1 pc = .ok (.invokevirtual idx, 3)) (hp : pc + 3 = pc') (hd1 : 3 ≤ d) (hcat : (st.map zcat).sum ≤ 8) (hh : Y.2.2.2.2 = []) (hmc : nc ≤ mc) (hms : ns ≤ ms)
    (k9 : Wa Y d mc ms n0 Post pc' ls (zI (ct - 1) :: st) (wC t nm (H ((ol + (ct - 1)) % 8).toNat) D H ol (ct - 1) k y si fl wi) nc ns) : Wa Y d mc ms n0 Post pc ls (zR 5 :: zR 13 :: st) (wC t nm s D H ol ct k y si fl wi) nc ns :=
  wa_dV (k_X1_restore H ol ct s ho hc hH) ok_X1_restore hlink hd hp ((13 :: 14 :: 15 :: 16 :: 17 :: 18 :: 19 :: 20 :: 21 :: 22 :: 23 :: 24 :: 25 :: 26 :: 27 :: 28 :: 29 :: 30 :: 31 :: 32 :: 33 :: 34 :: 35 :: 36 :: 37 :: 38 :: 39 :: 40 :: 41 :: 42 :: 43 :: 44 :: 45 :: 46 :: 5 :: 6 :: 7 :: 8 :: []) : List Nat) (hsub_k t nm s D H ol ct k y si fl wi) (by decide) rfl rfl rfl rfl rfl hd1 hcat hh hmc hms rfl (zins_k t nm s D H ol ct k y si fl wi _ _ _ _) rfl k9
end ZBIG
/-! the state of the class -/
abbrev zCS : Type := zRw × zRw × zSh × zSh × (Nat → zSh) × Int × Int × zKd × zLy × Int × Int × Int
def wCS (c : zCS) : List zE := wC c.1 c.2.1 c.2.2.1 c.2.2.2.1 c.2.2.2.2.1 c.2.2.2.2.2.1 c.2.2.2.2.2.2.1 c.2.2.2.2.2.2.2.1 c.2.2.2.2.2.2.2.2.1 c.2.2.2.2.2.2.2.2.2.1 c.2.2.2.2.2.2.2.2.2.2.1 c.2.2.2.2.2.2.2.2.2.2.2
def okZ (s : zSh) : Prop := okD 200 s ∧ okN s ∧ (-6 ≤ s.2.2.2.2.2.1 ∧ s.2.2.2.2.2.1 ≤ 6) ∧ (s.2.2.2.2.2.2 = 0 ∨ s.2.2.2.2.2.2 = 1) ∧ (∀ i : Int, 0 ≤ i → i < s.2.2.2.2.1 → 0 ≤ s.2.2.1 (i * 5 + 0) ∧ s.2.2.1 (i * 5 + 0) < s.2.2.2.1)
def okC : zCS → Prop
  | (t, nm, s, D, H, ol, ct, k, y, si, fl, wi) => okT t ∧ (0 ≤ nm.1 ∧ nm.1 ≤ 680) ∧ okZ s ∧ (okD 200 D ∧ okS D) ∧ (∀ i : Nat, i < 8 → okZ (H i)) ∧ (0 ≤ ol ∧ ol < 8) ∧ (0 ≤ ct ∧ ct ≤ 8) ∧ (0 ≤ k.2.2.1 ∧ k.2.2.1 < 10) ∧ okQ y ∧ (si = 0 ∨ si = 1) ∧ (fl = 0 ∨ fl = 1) ∧ (10 ≤ wi ∧ wi ≤ 200)
theorem zX_e {r : zP × zCS} {o : zP} {c : zCS} {w : List zE} (h : r = (o, c)) (hw : w = wCS c) : zX r.1 (wCS r.2) o w := by
  subst h
  exact ⟨rfl, hw⟩
abbrev eIA : String := "java/lang/IllegalArgumentException"
abbrev eIS : String := "java/lang/IllegalStateException"
abbrev eIO : String := "java/lang/IndexOutOfBoundsException"
theorem rC_0 {r : zRw} (h : 0 ≤ r.1) : (rC r 0).1 = 0 := by unfold rC; show (if _ then _ else _) = _; split <;> omega
theorem chS_b (r : zRw) (qu : Int) (h : 0 ≤ qu ∧ qu < 10) : -1 ≤ (if (chR (gT r) 0 qu).2.2.2.2 = 1 ∧ (chR (gT r) 0 qu).1 = r.1 then -1 else (chR (gT r) 0 qu).1) ∧ (if (chR (gT r) 0 qu).2.2.2.2 = 1 ∧ (chR (gT r) 0 qu).1 = r.1 then -1 else (chR (gT r) 0 qu).1) ≤ 20 := by
  have h1 := (chR_b (gT r) 0 qu h).1
  split <;> omega
theorem outF_b {F : Int → Int} {i cc : Int} (hF : ∀ j : Int, 0 ≤ j → j < 200 → -1000 ≤ F j ∧ F j ≤ 1000) (hi : 0 ≤ i ∧ i < cc) (hc : cc ≤ 40) : ∀ j : Int, 0 ≤ j → j < 200 → -1000 ≤ outF F i cc j ∧ outF F i cc j ≤ 1000 := by
  intro j h1 h2
  unfold outF zcpy
  split
  · exact hF _ (by omega) (by omega)
  · exact hF j h1 h2
theorem zand_nat {a : Int} (b : Int) (h : 0 ≤ a ∧ a < 4096) : 0 ≤ zand a b ∧ zand a b < 4096 := by
  have e1 : (Int32.ofInt a).toInt = a := zin_t ⟨by omega, by omega⟩
  have e2 : ((Int32.ofInt a).toBitVec.toNat : Int) = a := by
    have h3 : (Int32.ofInt a).toInt = (Int32.ofInt a).toBitVec.toInt := rfl
    rw [BitVec.toInt_eq_toNat_cond] at h3
    have h4 := (Int32.ofInt a).toBitVec.isLt
    split at h3 <;> omega
  have e3 : ((Int32.ofInt a &&& Int32.ofInt b).toBitVec).toNat ≤ (Int32.ofInt a).toBitVec.toNat := by
    rw [Int32.toBitVec_and, BitVec.toNat_and]
    exact Nat.and_le_left
  unfold zand
  have h3 : (Int32.ofInt a &&& Int32.ofInt b).toInt = (Int32.ofInt a &&& Int32.ofInt b).toBitVec.toInt := rfl
  rw [BitVec.toInt_eq_toNat_cond] at h3
  split at h3 <;> omega
theorem tone_all : (List.range 10).all (fun q => (List.range 12).all fun r => (List.range 13).all fun b => let x := if b = 12 then zrs (zTones.getD q 0) r else zor (zrs (zTones.getD q 0) r) (zshl 1 b); decide (0 ≤ x) && decide (x < 4096)) = true := by decide +kernel
theorem toneF_b {r q b : Int} (hq : 0 ≤ q ∧ q < 10) : 0 ≤ toneF r q b ∧ toneF r q b < 4096 := by
  have hr := pcl_b r
  have hb := pcl_b b
  have h1 := List.all_eq_true.mp (List.all_eq_true.mp tone_all q.toNat (List.mem_range.mpr (by omega))) (pcl r).toNat (List.mem_range.mpr (by omega))
  have hR : (((pcl r).toNat : Nat) : Int) = pcl r := Int.toNat_of_nonneg hr.1
  have hB : (((pcl b).toNat : Nat) : Int) = pcl b := Int.toNat_of_nonneg hb.1
  unfold toneF
  split
  · have h2 := List.all_eq_true.mp h1 12 (by decide)
    simp only [if_pos, hR, Bool.and_eq_true, decide_eq_true_eq] at h2
    exact h2
  · have h2 := List.all_eq_true.mp h1 (pcl b).toNat (List.mem_range.mpr (by omega))
    rw [if_neg (show ¬ (pcl b).toNat = 12 by omega)] at h2
    simp only [hR, hB, Bool.and_eq_true, decide_eq_true_eq] at h2
    exact h2
theorem tone_b {r q b : Int} (hq : 0 ≤ q ∧ q < 10) (x : Int) : 0 ≤ zand (toneF r q b) x ∧ zand (toneF r q b) x < 4096 := zand_nat x (toneF_b hq)
theorem smS_b {tp mn fl : Int} (hm : mn = 0 ∨ mn = 1) : -6 ≤ smS tp mn fl ∧ smS tp mn fl ≤ 6 := by
  have h := plf_b (tonO (-5) mn) tp
  have e1 : -5 ≤ sigO (plf (tonO (-5) mn) tp) mn ∧ sigO (plf (tonO (-5) mn) tp) mn ≤ 6 := by
    unfold sigO tonO at *
    split <;> (split at h <;> omega)
  unfold smS
  split <;> omega
theorem beF_b (F : Int → Int) (cc : Int) : -6 ≤ beF F cc ∧ beF F cc ≤ 109 := by
  have h1 := bsF_b F cc 0
  have h2 := bsF_b F cc 1
  unfold beF tonO
  (repeat' split) <;> omega
theorem fndQ {s : zSh} (p : Int) (hs : okN s) (hc : s.2.2.2.2.1 ≤ 40) (hT : ∀ k : Int, 0 ≤ k → k ≤ 201 → 0 ≤ s.2.1 k ∧ s.2.1 k ≤ 200) : ∀ (m : Nat) (k f : Int) (y : zLy), (f = 0 ∨ okP s y) → okQ y → okQ (fndP s p m k f y).2
  | 0, _, _, _, _, h => h
  | m + 1, k, f, y, h1, h2 => by
    rw [fndP]
    split
    · exact h2
    · rename_i h3
      have h4 := layN_P hs hc hT (h1.resolve_left (fun h => h3 (Or.inl h)))
      exact fndQ p hs hc hT m _ _ _ (Or.inr h4) ⟨h4.1, h4.2.1, h4.2.2.1, h4.2.2.2.1⟩
theorem fndQ0 {s : zSh} {y : zLy} {l p kd w : Int} (hq : okQ y) (hw : zin w) (hlc : s.2.2.2.1 ≤ 201) (h0 : 0 ≤ s.2.2.2.2.1) (hc : s.2.2.2.2.1 ≤ 40) (hs : okN s) (hT : ∀ k : Int, 0 ≤ k → k ≤ 201 → 0 ≤ s.2.1 k ∧ s.2.1 k ≤ 200) : okQ (fndP s p 201 0 (if (0 ≤ l ∧ l < s.2.2.2.1) ∧ (kd = 0 ∨ kd = 1) ∧ (0 ≤ p ∧ p ≤ 200) then 1 else 0) (staL s y l w)).2 := by
  refine fndQ p hs hc hT _ _ _ _ ?_ ⟨hq.1, hq.2.1, hq.2.2.1, hq.2.2.2⟩
  split
  · exact Or.inr (staL_P hq (by omega) hw h0)
  · exact Or.inl rfl
