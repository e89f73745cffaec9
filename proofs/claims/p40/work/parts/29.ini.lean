/-! THE LAYER: calls that leave new cells -/
section ZINI
variable {Y Y1 : zY} {d d1 mc ms mc1 ms1 n0 : Nat} {Post : zP → List zE → Prop} {pc pc' : Nat} {ls : List (Nat × zV)} {st stk as : List zV} {w w1 w2 w9 : List zE} {nc ns nc' ns' : Nat} {ρ : List Nat}
/-- the caller's places of the callee's cells, the new ones behind -/
def zrx (ρ : List Nat) (n t : Nat) : List Nat := ρ ++ List.range' n t
theorem z_goD {p : Program} {l : Launch} {e : Env} {R : Room} {s : State} {m : MethodId} {args : Array Value} {below : List Frame} {meth : Method} {c : Code} {G : zG} {A : Nat → Prop} {ad0 ad : Nat → Nat} {Qm : State → Prop} {H : Heap} {locs : List Loc} {lsA : Array Slot} {stv : List Value} {a : Array Value}
    (C9 : zCx Y d mc ms p l R s m meth c G A) (F : zFin Y mc ms n0 Post p l e R s m args below meth c G A ad0 Qm) (hag : n0 ≤ w.length ∧ zAg n0 w.length ad ad0) (hst : zSt G A ad s H locs w) (hl : lv_has lsA Y.2.2.1 (zls G.2.2.1 ad ls))
    (hsub : ρ.map (fun i => w[i]?) = w1.map fun e => some (zre ρ e)) (hn : ρ.Nodup) (hw : zokw w.length w) (hls : ls.all (fun q => zokv w.length q.2) = true) (hsk : st.all (zokv w.length) = true) (hw0 : 0 < w.length)
    (hr : vx_Run p l e R s m args below meth c H locs nc ns mc1 ms1 (F0 m pc lsA stv) (st.map (zc G.2.2.1 ad)) (zQc G (fun k => ad (ρ.getD k 0)) H.size w1 (zD none w9) a) (zXC G (va_A (zw G (fun k => ad (ρ.getD k 0)) w1) H.size) (fun k => ad (ρ.getD k 0)) w1.length (zD none w9)) (va_A (zw G (fun k => ad (ρ.getD k 0)) w1) H.size))
    (hw2 : zins (zre (zrx ρ w.length (w9.length - w1.length))) (zrx ρ w.length (w9.length - w1.length)) w9 (w ++ w9.drop w1.length) = w2)
    (k : Wa Y d mc ms n0 Post (pc + 3) ls st w2 (nc + mc1) (ns + ms1)) :
    W p l e R s m args below meth c H locs nc ns Qm (F0 m pc lsA stv) := by
  subst hw2
  obtain ⟨hfl, hR, hx, hb, hml, hr9, hown, hlk, hnm, htb, hT, hE, hA⟩ := id C9
  obtain ⟨hP, hD, hS⟩ := id hst
  have hF : ∀ q, va_A (zw G (fun k => ad (ρ.getD k 0)) w1) H.size q → A q := z_preA hsub hD hS hA
  intro T hT9 X
  rcases hr T hT9 X with ⟨v, st₀, t, T', L, h0, X', hL, e1, e2, ⟨⟨v1, w1', ad1, hv, hp, hle, hag1, hP1, hD1⟩, hF1⟩, stp⟩ | ⟨q, st₀, t, T', L, E, ce, h0, X', hL, e1, e2, ⟨⟨w1', ad1, hp, hle, hag1, hP1, hD1⟩, hF1⟩, hce, hcv, hcl, stp⟩
  · obtain ⟨hp1, rfl⟩ := hp
    cases hp1
    cases hv
    obtain ⟨k1, k2, k3⟩ := vx_keep h0 e1 hS (fun q _ h => hF q h) hF hL hF1
    rw [← e1] at hP1
    generalize hρ' : zrx ρ w.length (w1'.length - w1.length) = ρ' at k
    have hρl : ρ.length = w1.length := by have := congrArg List.length hsub; simpa using this
    have hρ0 : ∀ j i : Nat, ρ[j]? = some i → i < w.length := by
      intro j i hj
      have hjl : j < w1.length := by rw [← hρl]; exact (List.getElem?_eq_some_iff.mp hj).1
      have h2 : (ρ.map (fun i => w[i]?))[j]? = (w1.map fun e => some (zre ρ e))[j]? := by rw [hsub]
      rw [List.getElem?_map, hj, List.getElem?_map, List.getElem?_eq_getElem hjl] at h2
      exact (List.getElem?_eq_some_iff.mp (Option.some.inj h2)).1
    have hρ1 : ∀ j : Nat, j < w1.length → ρ'[j]? = ρ[j]? := by
      intro j hj
      rw [← hρ']
      exact List.getElem?_append_left (by rw [hρl]; exact hj)
    have hρ2 : ∀ j : Nat, w1.length ≤ j → j < w1'.length → ρ'[j]? = some (w.length + (j - w1.length)) := by
      intro j hj hj2
      rw [← hρ', zrx, List.getElem?_append_right (by rw [hρl]; exact hj), hρl, List.getElem?_range' (by omega)]
      simp
    have hρ'l : ρ'.length = w1'.length := by
      rw [← hρ', zrx, List.length_append, List.length_range', hρl]
      omega
    have hrng : ∀ k : Nat, w.length ≤ k → k < w.length + (w1'.length - w1.length) → k ∈ ρ' := by
      intro k h1 h2
      rw [← hρ', zrx]
      exact List.mem_append_right _ (List.mem_range'_1.mpr ⟨h1, h2⟩)
    have hnd : ρ'.Nodup := by
      rw [← hρ', zrx, List.nodup_append]
      refine ⟨hn, List.nodup_range', ?_⟩
      intro x h1 y h2 hxy
      obtain ⟨j, hj⟩ := List.getElem?_of_mem h1
      have := hρ0 j x hj
      have := (List.mem_range'_1.mp h2).1
      omega
    generalize had2 : (fun k => if w.length ≤ k ∧ k < w.length + (w1'.length - w1.length) then ad1 (w1.length + (k - w.length)) else ad k) = ad2
    have hlo : ∀ k : Nat, k < w.length → ad2 k = ad k := by
      intro k hk
      rw [← had2]
      exact if_neg (by omega)
    have hfun : (fun k => ad2 (ρ'.getD k 0)) = ad1 := by
      funext j
      by_cases h1 : j < w1.length
      · have hj : ρ[j]? = some ρ[j] := List.getElem?_eq_getElem (by rw [hρl]; exact h1)
        have h3 : ρ'.getD j 0 = ρ.getD j 0 := by rw [List.getD_eq_getElem?_getD, List.getD_eq_getElem?_getD, hρ1 j h1]
        have h4 : ρ.getD j 0 < w.length := by
          rw [List.getD_eq_getElem?_getD, hj]
          exact hρ0 j _ hj
        rw [h3, hlo _ h4]
        exact (hag1 j (Or.inl h1)).symm
      · by_cases h2 : j < w1'.length
        · have h3 : ρ'.getD j 0 = w.length + (j - w1.length) := by rw [List.getD_eq_getElem?_getD, hρ2 j (by omega) h2]; rfl
          rw [h3, ← had2]
          show (if _ then _ else _) = _
          rw [if_pos (by omega)]
          congr 1
          omega
        · have h3 : ρ'.getD j 0 = 0 := by rw [List.getD_eq_getElem?_getD, List.getElem?_eq_none (by omega)]; rfl
          have h4 : ρ.getD j 0 = 0 := by rw [List.getD_eq_getElem?_getD, List.getElem?_eq_none (by omega)]; rfl
          rw [h3, hlo 0 hw0]
          have := hag1 j (Or.inr (by omega))
          rw [this]
          show ad 0 = ad (ρ.getD j 0)
          rw [h4]
    have hpl : (w ++ w1'.drop w1.length).length = w.length + (w1'.length - w1.length) := by rw [List.length_append, List.length_drop]
    have hkey : ∀ (k : Nat) (q : Nat × va_E), (zw G ad2 (zins (zre ρ') ρ' w1' (w ++ w1'.drop w1.length)))[k]? = some q → (∃ j : Nat, (zw G ad1 w1')[j]? = some q ∧ ρ'[j]? = some k) ∨ (k ∉ ρ' ∧ (zw G ad w)[k]? = some q) := by
      intro k q hq
      rw [zw_at] at hq
      by_cases hk : k ∈ ρ'
      · obtain ⟨j, hj⟩ := List.getElem?_of_mem hk
        have hjl : j < w1'.length := by rw [← hρ'l]; exact (List.getElem?_eq_some_iff.mp hj).1
        have hkl : k < (w ++ w1'.drop w1.length).length := by
          rw [hpl]
          by_cases h1 : j < w1.length
          · have := hρ0 j k (by rw [← hρ1 j h1]; exact hj)
            omega
          · have h3 := hρ2 j (by omega) hjl
            rw [hj] at h3
            have := Option.some.inj h3
            omega
        rw [zins_in (zre ρ') ρ' w1' _ j k _ hnd hj (List.getElem?_eq_getElem hjl) hkl] at hq
        have h5 : ρ'.getD j 0 = k := by rw [List.getD_eq_getElem?_getD, hj]; rfl
        refine Or.inl ⟨j, ?_, hj⟩
        rw [zw_get (List.getElem?_eq_getElem hjl), ← hq]
        have h6 : ad2 k = ad1 j := by
          rw [← hfun, ← h5]
        show some (ad1 j, ze G ad1 w1'[j]) = some (ad2 k, ze G ad2 (zre ρ' w1'[j]))
        rw [← ze_ren, hfun, h6]
      · rw [zins_out (zre ρ') ρ' w1' _ k hk] at hq
        have hkl : k < w.length := by
          cases h7 : (w ++ w1'.drop w1.length)[k]? with
          | none => rw [h7] at hq; cases hq
          | some x =>
            have h8 := (List.getElem?_eq_some_iff.mp h7).1
            rw [hpl] at h8
            by_cases h9 : k < w.length
            · exact h9
            · exact absurd (hrng k (by omega) h8) hk
        rw [List.getElem?_append_left hkl, List.getElem?_eq_getElem hkl] at hq
        refine Or.inr ⟨hk, ?_⟩
        rw [zw_get (List.getElem?_eq_getElem hkl), ← hq]
        show some (ad k, ze G ad w[k]) = some (ad2 k, ze G ad2 w[k])
        rw [ze_ag hlo (zokw_at hw (List.getElem?_eq_getElem hkl)), hlo k hkl]
    have hsep : ∀ (j1 : Nat) (p : Nat × va_E) (k2 : Nat) (q : Nat × va_E), (zw G ad1 w1')[j1]? = some p → k2 ∉ ρ' → (zw G ad w)[k2]? = some q → p.1 ≠ q.1 := by
      intro j1 p k2 q h1 h2 h3 h4
      have hA1 : ∀ (j : Nat) (x : Nat) (y : va_E), (zw G (fun k => ad (ρ.getD k 0)) w1)[j]? = some (x, y) → x ≠ q.1 := by
        intro j x y hj hxq
        obtain ⟨i, a1, a2, b1⟩ := z_part hsub j _ hj
        have := hD.1 i k2 _ _ b1 h3 hxq
        subst this
        have hjl : j < w1.length := by rw [← hρl]; exact (List.getElem?_eq_some_iff.mp a1).1
        exact h2 (List.mem_of_getElem? ((hρ1 j hjl).trans a1))
      rcases hD1.2 j1 p h1 with ⟨j, y, hj⟩ | h5
      · exact hA1 j _ _ hj h4
      · have := (hP k2 q h3).lt
        rw [h4] at h5
        omega
    have hP2 : va_P G.1 vwCl (zw G ad2 (zins (zre ρ') ρ' w1' (w ++ w1'.drop w1.length))) T'.heap := by
      intro k q hq
      rcases hkey k q hq with ⟨j, h1, h2⟩ | ⟨h1, h2⟩
      · exact hP1 j q h1
      · have h3 := hP k q h2
        refine h3.kept (k2 q.1 h3.lt ?_)
        intro h
        rcases h with ⟨j, y, hj⟩ | h
        · obtain ⟨i, a1, a2, b1⟩ := z_part hsub j _ hj
          have := hD.1 i k _ _ b1 h2 rfl
          subst this
          have hjl : j < w1.length := by rw [← hρl]; exact (List.getElem?_eq_some_iff.mp a1).1
          exact h1 (List.mem_of_getElem? ((hρ1 j hjl).trans a1))
        · have := h3.lt
          omega
    have hD2 : va_D A (zw G ad2 (zins (zre ρ') ρ' w1' (w ++ w1'.drop w1.length))) := by
      refine ⟨fun i j p q hi hj hpq => ?_, fun k q hk => ?_⟩
      · rcases hkey i p hi with ⟨i1, a1, a2⟩ | ⟨a1, a2⟩
        · rcases hkey j q hj with ⟨j1, b1, b2⟩ | ⟨b1, b2⟩
          · have := hD1.1 i1 j1 _ _ a1 b1 hpq
            subst this
            exact Option.some.inj (a2.symm.trans b2)
          · exact absurd hpq (hsep i1 p j q a1 b1 b2)
        · rcases hkey j q hj with ⟨j1, b1, b2⟩ | ⟨b1, b2⟩
          · exact absurd hpq.symm (hsep j1 q i p b1 a1 a2)
          · exact hD.1 i j _ _ a2 b2 hpq
      · rcases hkey k q hk with ⟨j, a1, a2⟩ | ⟨a1, a2⟩
        · exact hF _ (hD1.2 j q a1)
        · exact hD.2 k q a2
    have hl2 : (zins (zre ρ') ρ' w1' (w ++ w1'.drop w1.length)).length = w.length + (w1'.length - w1.length) := by rw [zins_len, hpl]
    have hkk := k p l e R s m args below meth c G A ad0 Qm C9 F ad2 T'.heap (locs ++ L) lsA (by
      rw [hl2]
      refine ⟨by omega, fun k hk => ?_⟩
      rw [← had2]
      show (if _ then _ else _) = _
      rw [if_neg (by omega)]
      exact hag.2 k (by omega)) ⟨hP2, hD2, k3⟩ (by rw [zls_ag hlo hls]; exact hl)
    rw [zcs_ag hlo hsk] at hkk
    obtain ⟨t2, a1, b1⟩ := hkk T' rfl X'
    exact ⟨t2, stp t2 a1, b1⟩
  · exact nomatch hp.1
theorem wa_iV {q : Nat} {idx n : Nat} (M : zMet Y1 d1 mc1 ms1 (zR q :: as) w1 (zD none w9)) (hO : zOkI Y1 n) (hlink : Cond.methodLink Y.1.cls idx Y1.1 ∈ lw_tbl) (hd : decode Y.2.1 pc = .ok (.invokespecial idx, 3)) (hp : pc + 3 = pc') (ρ : List Nat) (hsub : ρ.map (fun i => w[i]?) = w1.map fun e => some (zre ρ e)) (hn : ρ.Nodup) (hstk : (as.map (zrv ρ)).reverse ++ zR (ρ.getD q 0) :: st = stk) (hna : as.length = n) (hd1 : d1 + 1 ≤ d) (hcat : (st.map zcat).sum ≤ 8) (hw : zokw w.length w) (hls : ls.all (fun q => zokv w.length q.2) = true) (hsk : st.all (zokv w.length) = true) (hw0 : 0 < w.length) (hnc : nc + mc1 = nc') (hns : ns + ms1 = ns') (hmc : nc' ≤ mc) (hms : ns' ≤ ms)
    (hw2 : zins (zre (zrx ρ w.length (w9.length - w1.length))) (zrx ρ w.length (w9.length - w1.length)) w9 (w ++ w9.drop w1.length) = w2)
    (k : Wa Y d mc ms n0 Post pc' ls st w2 nc' ns') : Wa Y d mc ms n0 Post pc ls stk w nc ns := by
  subst hp
  subst hstk
  subst hnc
  subst hns
  intro p l e R s m args below meth c G A ad0 Qm C9 F ad H locs lsA hag hst hl
  obtain ⟨hfl, hR, hx, hb, hml, hr9, hown, hlk, hnm, htb, hT, hE, hA⟩ := id C9
  refine z_goD (a := ((zR q :: as).map (zc G.2.2.1 (fun k => ad (ρ.getD k 0)))).toArray) C9 F hag hst hl hsub hn hw hls hsk hw0 ?_ hw2 k
  have hcb := z_cb (Y := Y) (mc1 := mc1) (ms1 := ms1) (args := args) hO.1 hT hlink hd1 hR
  rw [hO.2.2.2] at hcb
  refine vx_runI (As := as.map (zc G.2.2.1 (fun k => ad (ρ.getD k 0)))) (b := ad (ρ.getD q 0)) (cc := Y.2.1) (nL := Y.2.2.1) (Ts := []) ⟨hx, hb, hml, hown, fun _ h => nomatch h⟩ (M l G (fun k => ad (ρ.getD k 0)) H.size hfl) ⟨hcb, hO.2.2.1, hT.at hO.2.1 (zgood_c _ rfl) _⟩ (z_pre (as := zR q :: as) hsub hn hst hE hT hA) rfl (by rw [List.length_map]; exact hna) hl.1 ?_ (lv_room (z_cat hcat)) hd ⟨by omega, by omega⟩
  show List.map _ _ = _
  rw [List.map_append, List.map_reverse, z_map]
  rfl
end ZINI
