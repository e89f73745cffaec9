/-! the law: one turn, the loop, the beginning -/
set_option maxRecDepth 10000 in
theorem law_turn {N : Nat} {xs : Nat → Int32} {mc ms nc ns : Nat} {i : Int} {c0 : zCS} {x : zMX} {f : Int → Int} (hN : N < 100000) (hi : 0 ≤ i ∧ i + 4 < N) (h : RelM c0 x.1 x.2.1 x.2.2.1) (hmc : nc + 3 ≤ mc) (hms : ns + 18 ≤ ms) (k : ∀ (c1 : zCS) (x1 : zMX) (f1 : Int → Int) (nc1 ns1 : Nat), RelM c1 x1.1 x1.2.1 x1.2.2.1 → nc1 ≤ nc + 3 → ns1 ≤ ns + 18 → WL N xs q_L_law 15 mc ms 0 PL 1922 (lL i) [] (LW c1 (wMR c1 x1) f1) nc1 ns1) : WL N xs q_L_law 15 mc ms 0 PL 32 (lL i) [] (LW c0 (wMR c0 x) f) nc ns := by
  refine wl_aload_n (pc' := 33) dL_law_32 rfl rfl rfl ?_
  refine wl_iload (pc' := 35) dL_law_33 rfl rfl ?_
  refine wl_sload (pc' := 36) dL_law_35 rfl (by omega) (by omega) (by omega) ?_
  refine wl_bipush (pc' := 38) dL_law_36 rfl rfl ?_
  refine wl_iand (pc' := 39) dL_law_38 rfl ?_
  have hz := zin_and (xs i.toNat).toInt 63
  generalize zand (xs i.toNat).toInt 63 = z at hz ⊢
  by_cases ho : z < 0 ∨ 36 < z
  · exact wl_tabOut (tgt := 1922) dL_law_39 hz ho (by decide) (k c0 x f nc ns h (by omega) (by omega))
  rcases (show z = 0 ∨ z = 1 ∨ z = 2 ∨ z = 3 ∨ z = 4 ∨ z = 5 ∨ z = 6 ∨ z = 7 ∨ z = 8 ∨ z = 9 ∨ z = 10 ∨ z = 11 ∨ z = 12 ∨ z = 13 ∨ z = 14 ∨ z = 15 ∨ z = 16 ∨ z = 17 ∨ z = 18 ∨ z = 19 ∨ z = 20 ∨ z = 21 ∨ z = 22 ∨ z = 23 ∨ z = 24 ∨ z = 25 ∨ z = 26 ∨ z = 27 ∨ z = 28 ∨ z = 29 ∨ z = 30 ∨ z = 31 ∨ z = 32 ∨ z = 33 ∨ z = 34 ∨ z = 35 ∨ z = 36 by omega) with rfl | rfl | rfl | rfl | rfl | rfl | rfl | rfl | rfl | rfl | rfl | rfl | rfl | rfl | rfl | rfl | rfl | rfl | rfl | rfl | rfl | rfl | rfl | rfl | rfl | rfl | rfl | rfl | rfl | rfl | rfl | rfl | rfl | rfl | rfl | rfl | rfl
  · exact wl_tabIn (tgt := 200) dL_law_39 (by decide) (by decide) (by decide) rfl (by decide) (t_type hN hi h hmc hms k)
  · exact wl_tabIn (tgt := 256) dL_law_39 (by decide) (by decide) (by decide) rfl (by decide) (t_clearText hN hi h hmc hms k)
  · exact wl_tabIn (tgt := 269) dL_law_39 (by decide) (by decide) (by decide) rfl (by decide) (t_read hN hi h hmc hms k)
  · exact wl_tabIn (tgt := 282) dL_law_39 (by decide) (by decide) (by decide) rfl (by decide) (t_setSimple hN hi h hmc hms k)
  · exact wl_tabIn (tgt := 323) dL_law_39 (by decide) (by decide) (by decide) rfl (by decide) (t_setFlats hN hi h hmc hms k)
  · exact wl_tabIn (tgt := 364) dL_law_39 (by decide) (by decide) (by decide) rfl (by decide) (t_setWidth hN hi h hmc hms k)
  · exact wl_tabIn (tgt := 420) dL_law_39 (by decide) (by decide) (by decide) rfl (by decide) (t_lines hN hi h hmc hms k)
  · exact wl_tabIn (tgt := 433) dL_law_39 (by decide) (by decide) (by decide) rfl (by decide) (t_lyrics hN hi h hmc hms k)
  · exact wl_tabIn (tgt := 489) dL_law_39 (by decide) (by decide) (by decide) rfl (by decide) (t_lyric hN hi h hmc hms k)
  · exact wl_tabIn (tgt := 557) dL_law_39 (by decide) (by decide) (by decide) rfl (by decide) (t_chords hN hi h hmc hms k)
  · exact wl_tabIn (tgt := 570) dL_law_39 (by decide) (by decide) (by decide) rfl (by decide) (t_lineOf hN hi h hmc hms k)
  · exact wl_tabIn (tgt := 626) dL_law_39 (by decide) (by decide) (by decide) rfl (by decide) (t_columnOf hN hi h hmc hms k)
  · exact wl_tabIn (tgt := 682) dL_law_39 (by decide) (by decide) (by decide) rfl (by decide) (t_rootOf hN hi h hmc hms k)
  · exact wl_tabIn (tgt := 738) dL_law_39 (by decide) (by decide) (by decide) rfl (by decide) (t_qualityOf hN hi h hmc hms k)
  · exact wl_tabIn (tgt := 794) dL_law_39 (by decide) (by decide) (by decide) rfl (by decide) (t_bassOf hN hi h hmc hms k)
  · exact wl_tabIn (tgt := 850) dL_law_39 (by decide) (by decide) (by decide) rfl (by decide) (t_nameChar hN hi h hmc hms k)
  · exact wl_tabIn (tgt := 918) dL_law_39 (by decide) (by decide) (by decide) rfl (by decide) (t_setChord hN hi h hmc hms k)
  · exact wl_tabIn (tgt := 974) dL_law_39 (by decide) (by decide) (by decide) rfl (by decide) (t_addChord hN hi h hmc hms k)
  · exact wl_tabIn (tgt := 1042) dL_law_39 (by decide) (by decide) (by decide) rfl (by decide) (t_removeChord hN hi h hmc hms k)
  · exact wl_tabIn (tgt := 1098) dL_law_39 (by decide) (by decide) (by decide) rfl (by decide) (t_moveChord hN hi h hmc hms k)
  · exact wl_tabIn (tgt := 1166) dL_law_39 (by decide) (by decide) (by decide) rfl (by decide) (t_commonTones hN hi h hmc hms k)
  · exact wl_tabIn (tgt := 1222) dL_law_39 (by decide) (by decide) (by decide) rfl (by decide) (t_degree hN hi h hmc hms k)
  · exact wl_tabIn (tgt := 1278) dL_law_39 (by decide) (by decide) (by decide) rfl (by decide) (t_tonic hN hi h hmc hms k)
  · exact wl_tabIn (tgt := 1291) dL_law_39 (by decide) (by decide) (by decide) rfl (by decide) (t_isMinor hN hi h hmc hms k)
  · exact wl_tabIn (tgt := 1304) dL_law_39 (by decide) (by decide) (by decide) rfl (by decide) (t_signature hN hi h hmc hms k)
  · exact wl_tabIn (tgt := 1317) dL_law_39 (by decide) (by decide) (by decide) rfl (by decide) (t_setKey hN hi h hmc hms k)
  · exact wl_tabIn (tgt := 1401) dL_law_39 (by decide) (by decide) (by decide) rfl (by decide) (t_score hN hi h hmc hms k)
  · exact wl_tabIn (tgt := 1485) dL_law_39 (by decide) (by decide) (by decide) rfl (by decide) (t_findKey hN hi h hmc hms k)
  · exact wl_tabIn (tgt := 1498) dL_law_39 (by decide) (by decide) (by decide) rfl (by decide) (t_transpose hN hi h hmc hms k)
  · exact wl_tabIn (tgt := 1554) dL_law_39 (by decide) (by decide) (by decide) rfl (by decide) (t_respell hN hi h hmc hms k)
  · exact wl_tabIn (tgt := 1567) dL_law_39 (by decide) (by decide) (by decide) rfl (by decide) (t_difficulty hN hi h hmc hms k)
  · exact wl_tabIn (tgt := 1623) dL_law_39 (by decide) (by decide) (by decide) rfl (by decide) (t_bestCapo hN hi h hmc hms k)
  · exact wl_tabIn (tgt := 1636) dL_law_39 (by decide) (by decide) (by decide) rfl (by decide) (t_pairs hN hi h hmc hms k)
  · exact wl_tabIn (tgt := 1692) dL_law_39 (by decide) (by decide) (by decide) rfl (by decide) (t_rowLength hN hi h hmc hms k)
  · exact wl_tabIn (tgt := 1772) dL_law_39 (by decide) (by decide) (by decide) rfl (by decide) (t_rowChar hN hi h hmc hms k)
  · exact wl_tabIn (tgt := 1864) dL_law_39 (by decide) (by decide) (by decide) rfl (by decide) (t_undo hN hi h hmc hms k)
  · exact wl_tabIn (tgt := 1908) dL_law_39 (by decide) (by decide) (by decide) rfl (by decide) (t_fingerprint hN hi h hmc hms k)
theorem law_loop {N : Nat} {xs : Nat → Int32} {mc ms : Nat} (hN : N < 100000) (n : Nat) : ∀ (i : Int) (c0 : zCS) (x : zMX) (f : Int → Int) (nc ns : Nat), 0 ≤ i → i ≤ N + 5 → (N : Int) < i + 5 * n + 5 → RelM c0 x.1 x.2.1 x.2.2.1 → nc + 3 * n ≤ mc → ns + 18 * n ≤ ms → WL N xs q_L_law 15 mc ms 0 PL 23 (lL i) [] (LW c0 (wMR c0 x) f) nc ns := by
  induction n with
  | zero =>
    intro i c0 x f nc ns h0 h1 h2 h hmc hms
    refine wl_iload (pc' := 25) dL_law_23 rfl rfl ?_
    refine wl_aload_n (pc' := 26) dL_law_25 rfl rfl rfl ?_
    refine wl_slen (pc' := 27) dL_law_26 rfl ?_
    refine wl_iconst (pc' := 28) dL_law_27 rfl ?_
    refine wl_isub (pc' := 29) dL_law_28 rfl ?_
    refine wl_icmp_gt (tgt := 1928) (pc' := 32) dL_law_29 (by decide) rfl ⟨by omega, by omega⟩ ⟨by omega, by omega⟩ (fun hg => ?_) (fun hg => absurd (show ((N : Int) - 5 < i) by omega) hg)
    refine wl_iconst (pc' := 1929) dL_law_1928 rfl ?_
    exact wl_zret dL_law_1929 rfl (by omega) (by omega) (Or.inr rfl) rfl
  | succ n ih =>
    intro i c0 x f nc ns h0 h1 h2 h hmc hms
    refine wl_iload (pc' := 25) dL_law_23 rfl rfl ?_
    refine wl_aload_n (pc' := 26) dL_law_25 rfl rfl rfl ?_
    refine wl_slen (pc' := 27) dL_law_26 rfl ?_
    refine wl_iconst (pc' := 28) dL_law_27 rfl ?_
    refine wl_isub (pc' := 29) dL_law_28 rfl ?_
    refine wl_icmp_gt (tgt := 1928) (pc' := 32) dL_law_29 (by decide) rfl ⟨by omega, by omega⟩ ⟨by omega, by omega⟩ (fun hg => ?_) (fun hg => ?_)
    · refine wl_iconst (pc' := 1929) dL_law_1928 rfl ?_
      exact wl_zret dL_law_1929 rfl (by omega) (by omega) (Or.inr rfl) rfl
    · refine law_turn hN ⟨h0, by omega⟩ h (by omega) (by omega) (fun c1 x1 f1 nc1 ns1 hr g1 g2 => ?_)
      refine wl_iinc (pc' := 1925) (ls' := lL (i + 5)) dL_law_1922 rfl rfl (by decide) rfl ?_
      refine wl_goto (pc' := 23) dL_law_1925 (by decide) ?_
      exact ih (i + 5) c1 x1 f1 nc1 ns1 (by omega) (by omega) (by omega) hr (by omega) (by omega)
/-! the beginning -/
abbrev cI : zCS := (zr0, zr0, zs0, zs0, hS0, 0, 0, (0, 0, 0, 0, 0), (zr0, zr0, 0, 0, 0, 0, 0, 0, 0, 0), 1, 0, 200)
abbrev xI : zMX := (zup (fun _ => 0) 0 1, fun _ => 0, fun _ => 0, 0, 0, 0, 0, 0, 0, 0, fun _ => 0, fun _ => 0, 0, fun _ => 0, fun _ => 0, 0, 0)
theorem okD_0 : okD 200 zs0 := by
  refine ⟨?_, ?_, ?_, ?_, ?_, ?_⟩ <;> simp [zs0] <;> (try omega)
theorem okZ_0 : okZ zs0 := ⟨okD_0, fun i h1 h2 => absurd h2 (by show ¬ i < 0; omega), ⟨by decide, by decide⟩, Or.inl rfl, fun i h1 h2 => absurd h2 (by show ¬ i < 0; omega)⟩
theorem rel_0 : RelM cI xI.1 xI.2.1 xI.2.2.1 := by
  have hS : okS zs0 := ⟨Or.inl rfl, okD_0.2.2.2.2.2⟩
  refine ⟨⟨?_, ⟨by decide, by decide⟩, okZ_0, ⟨okD_0, hS⟩, fun i _ => okZ_0, ⟨by decide, by decide⟩, ⟨by decide, by decide⟩, ⟨by decide, by decide⟩, ?_, Or.inr rfl, Or.inl rfl, ⟨by decide, by decide⟩⟩, ⟨okZ_0, rfl, ?_, ?_, ?_⟩, ⟨rfl, rfl, ?_, rfl, ?_, ?_, ?_⟩, ?_, fun a h1 h2 => absurd h2 (by show ¬ a < 0; omega)⟩
  · exact ⟨by decide, by decide, fun j h1 h2 => absurd h2 (by show ¬ j < 0; omega)⟩
  · exact ⟨⟨by decide, by decide⟩, ⟨by decide, by decide⟩, ⟨by decide, by decide⟩, ⟨by decide, by decide⟩⟩
  · exact fun k h1 h2 => Int.le_refl _
  · exact fun i h1 h2 => absurd h2 (by show ¬ i < 0; omega)
  · exact fun i j h1 h2 h3 => absurd h3 (by show ¬ j < 0; omega)
  · rfl
  · intro k h1 h2
    have h3 : (4 + k) ≠ 0 := by omega
    exact zup_ne (fun _ => 0) 1 h3
  · exact fun t h1 h2 => absurd h2 (by show ¬ t < 5 * 0; omega)
  · exact fun j h1 h2 => absurd h2 (by show ¬ j < 0; omega)
  · exact ⟨rfl, fun j h1 h2 => rfl⟩
theorem zokw_mono {n m : Nat} (h : n ≤ m) : ∀ {w : List zE}, zokw n w → zokw m w
  | [], _ => trivial
  | e :: w, hw => by
    refine ⟨?_, zokw_mono h hw.2⟩
    have h1 := hw.1
    rcases e with a | ⟨q, g⟩ | ⟨c, fs⟩
    · trivial
    · exact fun j k hj => Nat.lt_of_lt_of_le (h1 j k hj) h
    · show fs.all (zokv m) = true
      have h2 : fs.all (zokv n) = true := h1
      rw [List.all_eq_true] at h2 ⊢
      intro v hv
      have h3 := h2 v hv
      rcases v with x | x | _ | k | k <;> first | rfl | exact Nat.ble_eq_true_of_le (Nat.le_trans (zokv_lt h3) h)
theorem zokw_app {n : Nat} : ∀ {a b : List zE}, zokw n a → zokw n b → zokw n (a ++ b)
  | [], _, _, h => h
  | _ :: _, _, ha, hb => ⟨ha.1, zokw_app ha.2 hb⟩
section ZLN
variable {N9 : Nat} {xs : Nat → Int32} {Y Y1 : zY} {d d1 mc ms mc1 ms1 n0 : Nat} {Post Post1 : zP → List zE → Prop} {pc pc' : Nat} {ls : List (Nat × zV)} {st stk as : List zV} {w w1 w2 w9 w' : List zE} {nc ns nc' ns' : Nat} {ρ : List Nat}
theorem wl_dup {v : zV} (hd : decode Y.2.1 pc = .ok (.dup, 1)) (hp : pc + 1 = pc') (hv : zcat v = 1) (k : WL N9 xs Y d mc ms n0 Post pc' ls (v :: v :: st) w nc ns) : WL N9 xs Y d mc ms n0 Post pc ls (v :: st) w nc ns := by
  subst hp
  intro p l e R s m args below meth c G A ad0 Qm C F ad H locs lsA hag hst hl
  have kk := k p l e R s m args below meth c G A ad0 Qm C F ad H locs lsA hag hst hl
  obtain ⟨-, -, hx, hb, -⟩ := C.2
  exact lv_dup hx hb hd (by rw [zcat_c]; exact hv) kk
theorem wl_astore_n {q : Fin 4} {i : Nat} {x : Option (Nat ⊕ Nat)} {ls' : List (Nat × zV)} (hd : decode Y.2.1 pc = .ok (.astore_n q, 1)) (hp : pc + 1 = pc') (hi : (q : Nat) = i) (hn : i < Y.2.2.1) (hl9 : zput1 ls i (.inr (.inr x)) = ls') (k : WL N9 xs Y d mc ms n0 Post pc' ls' st w nc ns) : WL N9 xs Y d mc ms n0 Post pc ls (.inr (.inr x) :: st) w nc ns := by
  subst hl9
  subst hp
  intro p l e R s m args below meth c G A ad0 Qm C F ad H locs lsA hag hst hl
  have kk := fun lsA' hl' => k p l e R s m args below meth c G A ad0 Qm C F ad H locs lsA' hag hst hl'
  obtain ⟨-, -, hx, hb, -⟩ := C.2
  rcases x with _ | k9 | k9
  · exact lv_astore_nN hx hb hd hi hl hn (zput1_c G.2.2.1 ad ls i zN) (fun lsA' hl' => kk lsA' hl')
  · exact lv_astore_n hx hb hd hi hl hn (zput1_c G.2.2.1 ad ls i (zR k9)) (fun lsA' hl' => kk lsA' hl')
  · exact lv_astore_n hx hb hd hi hl hn (zput1_c G.2.2.1 ad ls i (zK k9)) (fun lsA' hl' => kk lsA' hl')
theorem WL.wN {p : Program} {l : Launch} {e : Env} {R : Room} {s : State} {m : MethodId} {args : Array Value} {below : List Frame} {meth : Method} {c : Code} {G : zG} {A : Nat → Prop} {ad0 : Nat → Nat} {Qm : State → Prop} (e9 : zE) (k : WL N9 xs Y d mc ms n0 Post pc ls (zR w.length :: st) (w ++ [e9]) nc ns)
    (C : zCxS N9 xs Y d mc ms p l R s m meth c G A) (F : zFin Y mc ms n0 Post p l e R s m args below meth c G A ad0 Qm) {ad : Nat → Nat} {H : Heap} {locs : List Loc} {lsA : Array Slot} (hag : n0 ≤ w.length ∧ zAg n0 w.length ad ad0) (hw : zokw w.length w) (hls : ls.all (fun q => zokv w.length q.2) = true) (hst : st.all (zokv w.length) = true) {q : Nat} {x : va_E} (hx : ze G (zpu ad w.length q) e9 = x) (h : va_P G.1 vwCl (zw G ad w ++ [(q, x)]) H ∧ va_D A (zw G ad w ++ [(q, x)]) ∧ va_S A s.heap H locs) (hl : lv_has lsA Y.2.2.1 (zls G.2.2.1 ad ls)) :
    W p l e R s m args below meth c H locs nc ns Qm (F0 m pc lsA (.ref q :: st.map (zc G.2.2.1 ad))) := by
  have e1 := zw_push (G := G) (ad := ad) (ad1 := zpu ad w.length q) e9 hw (zpu_lt _ _ _)
  rw [zpu_same, hx] at e1
  rw [← e1] at h
  have kk := k p l e R s m args below meth c G A ad0 Qm C F (zpu ad w.length q) H locs lsA (by rw [List.length_append]; exact ⟨by show n0 ≤ w.length + 1; omega, zpu_ag hag⟩) h (by rw [zls_ag (zpu_lt _ _ _) hls]; exact hl)
  rw [List.map_cons, zcs_ag (zpu_lt _ _ _) hst] at kk
  have e2 : zc G.2.2.1 (zpu ad w.length q) (zR w.length) = .ref q := congrArg Value.ref (zpu_same _ _ _)
  rw [e2] at kk
  exact kk
theorem wl_new {idx ci N : Nat} {C : String} {T : u_T} {ty : Nat → FieldType} {fs : List zV} (hC : zCl ci C T N ty) (hlink : Cond.classLink Y.1.cls idx C ∈ lw_tbl) (hd : decode Y.2.1 pc = .ok (.new idx, 3)) (hp : pc + 3 = pc') (hfs : ∀ ac ad, ∀ j, j < N → defaultValue (ty j) = vp_V (fs.map (zc ac ad)) j) (hfr : fs.all (zokv 0) = true) (hw : zokw w.length w) (hls : ls.all (fun q => zokv w.length q.2) = true) (hst : st.all (zokv w.length) = true) (hnc : nc + 1 = nc') (hns : ns + N = ns') (hmc : nc' ≤ mc) (hms : ns' ≤ ms) (hw' : w ++ [zO ci fs] = w')
    (k : WL N9 xs Y d mc ms n0 Post pc' ls (zR w.length :: st) w' nc' ns') : WL N9 xs Y d mc ms n0 Post pc ls st w nc ns := by
  subst hw'
  subst hnc
  subst hns
  subst hp
  intro p l e R s m args below meth c G A ad0 Qm C9 F ad H locs lsA hag hst9 hl
  obtain ⟨hfl, hR, hx, hb, hml, hr, hown, hlk, hnm, htb, hT, hE, hA⟩ := id C9.2
  obtain ⟨hP, hD, hS⟩ := id hst9
  refine va_new (Ts := u_ws C T N) hx hb (fun w9 h9 => hT.at (hC.2.1 w9 h9).1 (hC.2.1 w9 h9).2 _) (fun _ h9 => h9) ty hC.2.2.1 hown (hT.at hlink (zgood_c _ rfl) _) (hT.at hC.2.2.2.2.2.1 (zgood_c _ rfl) _) (hT.at hC.2.2.2.2.2.2 (zgood_c _ rfl) _) hE.1.1 hP hD hS hA hC.1 (fs := fs.map (zc G.2.2.1 ad)) (hfs _ _) (by omega) (by omega) hd (fun q H1 hP1 hD1 hS1 => ?_)
  refine WL.wN (zO ci fs) k C9 F hag hw hls hst ?_ ⟨hP1, hD1, hS1⟩ hl
  show Sum.inr (ci, fs.map (zc G.2.2.1 (zpu ad w.length q))) = _
  rw [zcs_ag (n := 0) (fun k h => absurd h (Nat.not_lt_zero k)) hfr]
theorem zl_goD {p : Program} {l : Launch} {e : Env} {R : Room} {s : State} {m : MethodId} {args : Array Value} {below : List Frame} {meth : Method} {c : Code} {G : zG} {A : Nat → Prop} {ad0 ad : Nat → Nat} {Qm : State → Prop} {H : Heap} {locs : List Loc} {lsA : Array Slot} {stv : List Value} {a : Array Value}
    (C9 : zCxS N9 xs Y d mc ms p l R s m meth c G A) (F : zFin Y mc ms n0 Post p l e R s m args below meth c G A ad0 Qm) (hag : n0 ≤ w.length ∧ zAg n0 w.length ad ad0) (hst : zSt G A ad s H locs w) (hl : lv_has lsA Y.2.2.1 (zls G.2.2.1 ad ls))
    (hsub : ρ.map (fun i => w[i]?) = w1.map fun e => some (zre ρ e)) (hn : ρ.Nodup) (hw : zokw w.length w) (hls : ls.all (fun q => zokv w.length q.2) = true) (hsk : st.all (zokv w.length) = true) (hw0 : 0 < w.length)
    (hr : vx_Run p l e R s m args below meth c H locs nc ns mc1 ms1 (F0 m pc lsA stv) (st.map (zc G.2.2.1 ad)) (zQc G (fun k => ad (ρ.getD k 0)) H.size w1 (zD none w9) a) (zXC G (va_A (zw G (fun k => ad (ρ.getD k 0)) w1) H.size) (fun k => ad (ρ.getD k 0)) w1.length (zD none w9)) (va_A (zw G (fun k => ad (ρ.getD k 0)) w1) H.size))
    (hw2 : zins (zre (zrx ρ w.length (w9.length - w1.length))) (zrx ρ w.length (w9.length - w1.length)) w9 (w ++ w9.drop w1.length) = w2)
    (k : WL N9 xs Y d mc ms n0 Post (pc + 3) ls st w2 (nc + mc1) (ns + ms1)) :
    W p l e R s m args below meth c H locs nc ns Qm (F0 m pc lsA stv) := by
  subst hw2
  obtain ⟨hfl, hR, hx, hb, hml, hr9, hown, hlk, hnm, htb, hT, hE, hA⟩ := id C9.2
  obtain ⟨hP, hD, hS⟩ := id hst
  have hF : ∀ q, va_A (zw G (fun k => ad (ρ.getD k 0)) w1) H.size q → A q := z_preA hsub hD hS hA
  intro T hT9 X
  rcases hr T hT9 X with ⟨v, st₀, t, T', L, h0, X', hL, e1, e2, ⟨⟨v1, w1', ad1, hv, hp, hle, hag1, hP1, hD1⟩, hF1⟩, stp⟩ | ⟨q, st₀, t, T', L, E, ce, h0, X', hL, e1, e2, ⟨⟨w1', ad1, hp, hle, hag1, hP1, hD1⟩, hF1⟩, hce, hcv, hcl, stp⟩
  · obtain ⟨hp1, rfl⟩ := hp
    cases hp1
    cases hv
    obtain ⟨k1, k2, k3⟩ := vx_keep h0 e1 hS (fun q _ h => hF q h) hF hL hF1
    rw [← e1] at hP1
    generalize hρ' : zrx ρ w.length (w1'.length - w1.length) = ρ' at k
    have hρl : ρ.length = w1.length := by have := congrArg List.length hsub; simpa using this
    have hρ0 : ∀ j i : Nat, ρ[j]? = some i → i < w.length := by
      intro j i hj
      have hjl : j < w1.length := by rw [← hρl]; exact (List.getElem?_eq_some_iff.mp hj).1
      have h2 : (ρ.map (fun i => w[i]?))[j]? = (w1.map fun e => some (zre ρ e))[j]? := by rw [hsub]
      rw [List.getElem?_map, hj, List.getElem?_map, List.getElem?_eq_getElem hjl] at h2
      exact (List.getElem?_eq_some_iff.mp (Option.some.inj h2)).1
    have hρ1 : ∀ j : Nat, j < w1.length → ρ'[j]? = ρ[j]? := by
      intro j hj
      rw [← hρ']
      exact List.getElem?_append_left (by rw [hρl]; exact hj)
    have hρ2 : ∀ j : Nat, w1.length ≤ j → j < w1'.length → ρ'[j]? = some (w.length + (j - w1.length)) := by
      intro j hj hj2
      rw [← hρ', zrx, List.getElem?_append_right (by rw [hρl]; exact hj), hρl, List.getElem?_range' (by omega)]
      simp
    have hρ'l : ρ'.length = w1'.length := by
      rw [← hρ', zrx, List.length_append, List.length_range', hρl]
      omega
    have hrng : ∀ k : Nat, w.length ≤ k → k < w.length + (w1'.length - w1.length) → k ∈ ρ' := by
      intro k h1 h2
      rw [← hρ', zrx]
      exact List.mem_append_right _ (List.mem_range'_1.mpr ⟨h1, h2⟩)
    have hnd : ρ'.Nodup := by
      rw [← hρ', zrx, List.nodup_append]
      refine ⟨hn, List.nodup_range', ?_⟩
      intro x h1 y h2 hxy
      obtain ⟨j, hj⟩ := List.getElem?_of_mem h1
      have := hρ0 j x hj
      have := (List.mem_range'_1.mp h2).1
      omega
    generalize had2 : (fun k => if w.length ≤ k ∧ k < w.length + (w1'.length - w1.length) then ad1 (w1.length + (k - w.length)) else ad k) = ad2
    have hlo : ∀ k : Nat, k < w.length → ad2 k = ad k := by
      intro k hk
      rw [← had2]
      exact if_neg (by omega)
    have hfun : (fun k => ad2 (ρ'.getD k 0)) = ad1 := by
      funext j
      by_cases h1 : j < w1.length
      · have hj : ρ[j]? = some ρ[j] := List.getElem?_eq_getElem (by rw [hρl]; exact h1)
        have h3 : ρ'.getD j 0 = ρ.getD j 0 := by rw [List.getD_eq_getElem?_getD, List.getD_eq_getElem?_getD, hρ1 j h1]
        have h4 : ρ.getD j 0 < w.length := by
          rw [List.getD_eq_getElem?_getD, hj]
          exact hρ0 j _ hj
        rw [h3, hlo _ h4]
        exact (hag1 j (Or.inl h1)).symm
      · by_cases h2 : j < w1'.length
        · have h3 : ρ'.getD j 0 = w.length + (j - w1.length) := by rw [List.getD_eq_getElem?_getD, hρ2 j (by omega) h2]; rfl
          rw [h3, ← had2]
          show (if _ then _ else _) = _
          rw [if_pos (by omega)]
          congr 1
          omega
        · have h3 : ρ'.getD j 0 = 0 := by rw [List.getD_eq_getElem?_getD, List.getElem?_eq_none (by omega)]; rfl
          have h4 : ρ.getD j 0 = 0 := by rw [List.getD_eq_getElem?_getD, List.getElem?_eq_none (by omega)]; rfl
          rw [h3, hlo 0 hw0]
          have := hag1 j (Or.inr (by omega))
          rw [this]
          show ad 0 = ad (ρ.getD j 0)
          rw [h4]
    have hpl : (w ++ w1'.drop w1.length).length = w.length + (w1'.length - w1.length) := by rw [List.length_append, List.length_drop]
    have hkey : ∀ (k : Nat) (q : Nat × va_E), (zw G ad2 (zins (zre ρ') ρ' w1' (w ++ w1'.drop w1.length)))[k]? = some q → (∃ j : Nat, (zw G ad1 w1')[j]? = some q ∧ ρ'[j]? = some k) ∨ (k ∉ ρ' ∧ (zw G ad w)[k]? = some q) := by
      intro k q hq
      rw [zw_at] at hq
      by_cases hk : k ∈ ρ'
      · obtain ⟨j, hj⟩ := List.getElem?_of_mem hk
        have hjl : j < w1'.length := by rw [← hρ'l]; exact (List.getElem?_eq_some_iff.mp hj).1
        have hkl : k < (w ++ w1'.drop w1.length).length := by
          rw [hpl]
          by_cases h1 : j < w1.length
          · have := hρ0 j k (by rw [← hρ1 j h1]; exact hj)
            omega
          · have h3 := hρ2 j (by omega) hjl
            rw [hj] at h3
            have := Option.some.inj h3
            omega
        rw [zins_in (zre ρ') ρ' w1' _ j k _ hnd hj (List.getElem?_eq_getElem hjl) hkl] at hq
        have h5 : ρ'.getD j 0 = k := by rw [List.getD_eq_getElem?_getD, hj]; rfl
        refine Or.inl ⟨j, ?_, hj⟩
        rw [zw_get (List.getElem?_eq_getElem hjl), ← hq]
        have h6 : ad2 k = ad1 j := by
          rw [← hfun, ← h5]
        show some (ad1 j, ze G ad1 w1'[j]) = some (ad2 k, ze G ad2 (zre ρ' w1'[j]))
        rw [← ze_ren, hfun, h6]
      · rw [zins_out (zre ρ') ρ' w1' _ k hk] at hq
        have hkl : k < w.length := by
          cases h7 : (w ++ w1'.drop w1.length)[k]? with
          | none => rw [h7] at hq; cases hq
          | some x =>
            have h8 := (List.getElem?_eq_some_iff.mp h7).1
            rw [hpl] at h8
            by_cases h9 : k < w.length
            · exact h9
            · exact absurd (hrng k (by omega) h8) hk
        rw [List.getElem?_append_left hkl, List.getElem?_eq_getElem hkl] at hq
        refine Or.inr ⟨hk, ?_⟩
        rw [zw_get (List.getElem?_eq_getElem hkl), ← hq]
        show some (ad k, ze G ad w[k]) = some (ad2 k, ze G ad2 w[k])
        rw [ze_ag hlo (zokw_at hw (List.getElem?_eq_getElem hkl)), hlo k hkl]
    have hsep : ∀ (j1 : Nat) (p : Nat × va_E) (k2 : Nat) (q : Nat × va_E), (zw G ad1 w1')[j1]? = some p → k2 ∉ ρ' → (zw G ad w)[k2]? = some q → p.1 ≠ q.1 := by
      intro j1 p k2 q h1 h2 h3 h4
      have hA1 : ∀ (j : Nat) (x : Nat) (y : va_E), (zw G (fun k => ad (ρ.getD k 0)) w1)[j]? = some (x, y) → x ≠ q.1 := by
        intro j x y hj hxq
        obtain ⟨i, a1, a2, b1⟩ := z_part hsub j _ hj
        have := hD.1 i k2 _ _ b1 h3 hxq
        subst this
        have hjl : j < w1.length := by rw [← hρl]; exact (List.getElem?_eq_some_iff.mp a1).1
        exact h2 (List.mem_of_getElem? ((hρ1 j hjl).trans a1))
      rcases hD1.2 j1 p h1 with ⟨j, y, hj⟩ | h5
      · exact hA1 j _ _ hj h4
      · have := (hP k2 q h3).lt
        rw [h4] at h5
        omega
    have hP2 : va_P G.1 vwCl (zw G ad2 (zins (zre ρ') ρ' w1' (w ++ w1'.drop w1.length))) T'.heap := by
      intro k q hq
      rcases hkey k q hq with ⟨j, h1, h2⟩ | ⟨h1, h2⟩
      · exact hP1 j q h1
      · have h3 := hP k q h2
        refine h3.kept (k2 q.1 h3.lt ?_)
        intro h
        rcases h with ⟨j, y, hj⟩ | h
        · obtain ⟨i, a1, a2, b1⟩ := z_part hsub j _ hj
          have := hD.1 i k _ _ b1 h2 rfl
          subst this
          have hjl : j < w1.length := by rw [← hρl]; exact (List.getElem?_eq_some_iff.mp a1).1
          exact h1 (List.mem_of_getElem? ((hρ1 j hjl).trans a1))
        · have := h3.lt
          omega
    have hD2 : va_D A (zw G ad2 (zins (zre ρ') ρ' w1' (w ++ w1'.drop w1.length))) := by
      refine ⟨fun i j p q hi hj hpq => ?_, fun k q hk => ?_⟩
      · rcases hkey i p hi with ⟨i1, a1, a2⟩ | ⟨a1, a2⟩
        · rcases hkey j q hj with ⟨j1, b1, b2⟩ | ⟨b1, b2⟩
          · have := hD1.1 i1 j1 _ _ a1 b1 hpq
            subst this
            exact Option.some.inj (a2.symm.trans b2)
          · exact absurd hpq (hsep i1 p j q a1 b1 b2)
        · rcases hkey j q hj with ⟨j1, b1, b2⟩ | ⟨b1, b2⟩
          · exact absurd hpq.symm (hsep j1 q i p b1 a1 a2)
          · exact hD.1 i j _ _ a2 b2 hpq
      · rcases hkey k q hk with ⟨j, a1, a2⟩ | ⟨a1, a2⟩
        · exact hF _ (hD1.2 j q a1)
        · exact hD.2 k q a2
    have hl2 : (zins (zre ρ') ρ' w1' (w ++ w1'.drop w1.length)).length = w.length + (w1'.length - w1.length) := by rw [zins_len, hpl]
    have hkk := k p l e R s m args below meth c G A ad0 Qm C9 F ad2 T'.heap (locs ++ L) lsA (by
      rw [hl2]
      refine ⟨by omega, fun k hk => ?_⟩
      rw [← had2]
      show (if _ then _ else _) = _
      rw [if_neg (by omega)]
      exact hag.2 k (by omega)) ⟨hP2, hD2, k3⟩ (by rw [zls_ag hlo hls]; exact hl)
    rw [zcs_ag hlo hsk] at hkk
    obtain ⟨t2, a1, b1⟩ := hkk T' rfl X'
    exact ⟨t2, stp t2 a1, b1⟩
  · exact nomatch hp.1
theorem wl_iV {q : Nat} {idx n : Nat} (M : zMet Y1 d1 mc1 ms1 (zR q :: as) w1 (zD none w9)) (hO : zOkI Y1 n) (hlink : Cond.methodLink Y.1.cls idx Y1.1 ∈ lw_tbl) (hd : decode Y.2.1 pc = .ok (.invokespecial idx, 3)) (hp : pc + 3 = pc') (ρ : List Nat) (hsub : ρ.map (fun i => w[i]?) = w1.map fun e => some (zre ρ e)) (hn : ρ.Nodup) (hstk : (as.map (zrv ρ)).reverse ++ zR (ρ.getD q 0) :: st = stk) (hna : as.length = n) (hd1 : d1 + 1 ≤ d) (hcat : (st.map zcat).sum ≤ 8) (hw : zokw w.length w) (hls : ls.all (fun q => zokv w.length q.2) = true) (hsk : st.all (zokv w.length) = true) (hw0 : 0 < w.length) (hnc : nc + mc1 = nc') (hns : ns + ms1 = ns') (hmc : nc' ≤ mc) (hms : ns' ≤ ms)
    (hw2 : zins (zre (zrx ρ w.length (w9.length - w1.length))) (zrx ρ w.length (w9.length - w1.length)) w9 (w ++ w9.drop w1.length) = w2)
    (k : WL N9 xs Y d mc ms n0 Post pc' ls st w2 nc' ns') : WL N9 xs Y d mc ms n0 Post pc ls stk w nc ns := by
  subst hp
  subst hstk
  subst hnc
  subst hns
  intro p l e R s m args below meth c G A ad0 Qm C9 F ad H locs lsA hag hst hl
  obtain ⟨hfl, hR, hx, hb, hml, hr9, hown, hlk, hnm, htb, hT, hE, hA⟩ := id C9.2
  refine zl_goD (a := ((zR q :: as).map (zc G.2.2.1 (fun k => ad (ρ.getD k 0)))).toArray) C9 F hag hst hl hsub hn hw hls hsk hw0 ?_ hw2 k
  have hcb := z_cb (Y := Y) (mc1 := mc1) (ms1 := ms1) (args := args) hO.1 hT hlink hd1 hR
  rw [hO.2.2.2] at hcb
  refine vx_runI (As := as.map (zc G.2.2.1 (fun k => ad (ρ.getD k 0)))) (b := ad (ρ.getD q 0)) (cc := Y.2.1) (nL := Y.2.2.1) (Ts := []) ⟨hx, hb, hml, hown, fun _ h => nomatch h⟩ (M l G (fun k => ad (ρ.getD k 0)) H.size hfl) ⟨hcb, hO.2.2.1, hT.at hO.2.1 (zgood_c _ rfl) _⟩ (z_pre (as := zR q :: as) hsub hn hst hE hT hA) rfl (by rw [List.length_map]; exact hna) hl.1 ?_ (lv_room (z_cat hcat)) hd ⟨by omega, by omega⟩
  show List.map _ _ = _
  rw [List.map_append, List.map_reverse, z_map]
  rfl
theorem lar_long : Cond.arrayClass (newarray.typeOf .long) ∈ lw_tbl := List.mem_of_getElem? (i := 1472) (by decide +kernel)
theorem wl_newarrL {n : Nat} {x : Int} (hd : decode Y.2.1 pc = .ok (.newarray .long, 2)) (hp : pc + 2 = pc') (hn : x = n) (hn9 : n ≤ 100000) (hw : zokw w.length w) (hls : ls.all (fun q => zokv w.length q.2) = true) (hst : st.all (zokv w.length) = true) (hnc : nc + 1 = nc') (hns : ns + n = ns') (hmc : nc' ≤ mc) (hms : ns' ≤ ms) (hw' : w ++ [zA 2 n (fun _ => 0)] = w') (k : WL N9 xs Y d mc ms n0 Post pc' ls (zR w.length :: st) w' nc' ns') : WL N9 xs Y d mc ms n0 Post pc ls (zI x :: st) w nc ns := by
  subst hw'
  subst hnc
  subst hns
  subst hp
  subst hn
  intro p l e R s m args below meth c G A ad0 Qm C9 F ad H locs lsA hag hst9 hl
  obtain ⟨hfl, hR, hx, hb, hml, hr, hown, hlk, hnm, htb, hT, hE, hA⟩ := id C9.2
  obtain ⟨hP, hD, hS⟩ := id hst9
  have hz : zin (n : Int) := ⟨by omega, by omega⟩
  have hn0 : ¬ (Int32.ofInt (n : Int)) < 0 := by
    rw [← zi_0, zi_lt hz (by decide)]
    omega
  have hN : (Int32.ofInt (n : Int)).toNatClampNeg = n := by rw [zi_cl hz]; rfl
  refine va_newa (ty := .long) (tys := zTys G) (a0 := (n, .inr (.inl fun _ => Int64.ofInt 0))) hx hb (hT.at lar_long (zgood_c _ rfl) _) rfl hE.1.1 hP hD hS hA (fun cA => rfl) hn0 hN (by show n * 8 ≤ _; omega) (by omega) (by omega) hd (fun q cA H1 hK1 hP1 hD1 hS1 => ?_)
  have hc : G.2.1 2 = cA := by
    have h1 := (hE.1.1.2 2 _ rfl).2
    have h2 := (hK1.2 4 (cA, .long) rfl).2
    exact Option.some.inj ((show s.vm.findClass _ = some (G.2.1 2) from h1).symm.trans h2)
  subst hc
  exact WL.wN (zA 2 n (fun _ => 0)) k C9 F hag hw hls hst rfl ⟨hP1, hD1, hS1⟩ hl
end ZLN
theorem zins_segG {a b y w2 : List zE} {k n : Nat} (ha : a.length = k) (hy : y.length = n) (hl : w2.length = n) : zins (zre (List.range' k n)) (List.range' k n) w2 (a ++ (y ++ b)) = a ++ (w2.map (zre (List.range' k n)) ++ b) := by
  subst hl
  refine zins_of List.nodup_range' (hsub_seg ha) (by simp only [List.length_append, List.length_map, hy]) (fun j hj => ?_)
  rw [List.mem_range'] at hj
  by_cases h1 : j < k
  · rw [List.getElem?_append_left (by omega), List.getElem?_append_left (by omega)]
  · have h2 : k + w2.length ≤ j := by
      rcases Nat.lt_or_ge j (k + w2.length) with h | h
      · exact absurd ⟨j - k, by omega, by omega⟩ hj
      · exact h
    rw [List.getElem?_append_right (show a.length ≤ j by omega), List.getElem?_append_right (show a.length ≤ j by omega), List.getElem?_append_right (show (w2.map (zre (List.range' k w2.length))).length ≤ j - a.length by rw [List.length_map]; omega), List.getElem?_append_right (show y.length ≤ j - a.length by omega), List.length_map, hy]
set_option maxRecDepth 10000 in
theorem law_all {N : Nat} {xs : Nat → Int32} (hN : N ≤ 2560) : WL N xs q_L_law 15 601024 7293034 0 PL 0 [(0, zK 50)] [] [] 0 0 := by
  refine wl_new (pc' := 3) (fs := [zN, zN, zN, zN, zN, zN, zN, zI 0, zI 0, zI 0]) zc_X9 lcl_L_8 dL_law_0 rfl born_X9 rfl trivial rfl rfl rfl rfl (Nat.le_of_ble_eq_true rfl) (Nat.le_of_ble_eq_true rfl) rfl ?_
  refine wl_dup (pc' := 4) dL_law_3 rfl rfl ?_
  refine wl_iV (pc' := 7) (w2 := wCS cI) (as := []) k_X9_init ok_X9_init lm_L_93 dL_law_4 rfl [0] rfl (by decide) rfl rfl (by decide) (Nat.le_of_ble_eq_true rfl) ⟨rfl, trivial⟩ rfl rfl (Nat.le_of_ble_eq_true rfl) rfl rfl (Nat.le_of_ble_eq_true rfl) (Nat.le_of_ble_eq_true rfl) ?_ ?_
  · exact zins_idw (w := wCS cI) (w2 := wCS cI) rfl (wCS_ok cI)
  refine wl_astore_n (pc' := 8) (ls' := [(1, zR 0), (0, zK 50)]) dL_law_7 rfl rfl (by decide) rfl ?_
  refine wl_new (pc' := 11) (fs := [zN, zN, zI 0, zN, zI 0, zI 0, zI 0, zI 0, zI 0, zN, zN, zI 0, zI 0, zI 0, zI 0, zI 0, zI 0, zN, zN, zI 0, zN, zN, zI 0, zI 0]) zc_X10 lcl_L_94 dL_law_8 rfl born_X10 rfl (wCS_ok cI) rfl rfl rfl rfl (Nat.le_of_ble_eq_true rfl) (Nat.le_of_ble_eq_true rfl) rfl ?_
  refine wl_dup (pc' := 12) dL_law_11 rfl rfl ?_
  refine wl_iV (pc' := 15) (w2 := wCS cI ++ (wMR cI xI).map (zre rM)) (as := []) k_X10_init ok_X10_init lm_L_96 dL_law_12 rfl [53] rfl (by decide) rfl rfl (by decide) (Nat.le_of_ble_eq_true rfl) (zokw_app (zokw_mono (by decide) (wCS_ok cI)) ⟨rfl, trivial⟩) rfl rfl (Nat.le_of_ble_eq_true rfl) rfl rfl (Nat.le_of_ble_eq_true rfl) (Nat.le_of_ble_eq_true rfl) ?_ ?_
  · have h9 := zins_segG (a := wCS cI) (b := []) (k := 53) (n := 10) (y := [zO 6 [zN, zN, zI 0, zN, zI 0, zI 0, zI 0, zI 0, zI 0, zN, zN, zI 0, zI 0, zI 0, zI 0, zI 0, zI 0, zN, zN, zI 0, zN, zN, zI 0, zI 0]] ++ (wMR cI xI).drop 1) (w2 := wMR cI xI) rfl rfl rfl
    rw [List.append_nil, List.append_nil, ← List.append_assoc] at h9
    exact h9
  refine wl_astore_n (pc' := 16) (ls' := [(2, zR 53), (1, zR 0), (0, zK 50)]) dL_law_15 rfl rfl (by decide) rfl ?_
  refine wl_iconst (pc' := 17) dL_law_16 rfl ?_
  refine wl_newarrL (pc' := 19) (n := 1) (w' := LW cI (wMR cI xI) (fun _ => 0)) dL_law_17 rfl rfl (by decide) (zokw_app (zokw_mono (show 53 ≤ 63 by decide) (wCS_ok cI)) (show zokw 63 ((wMR cI xI).map (zre rM)) from ⟨rfl, trivial, trivial, trivial, trivial, trivial, trivial, trivial, trivial, trivial, trivial⟩)) rfl rfl rfl rfl (Nat.le_of_ble_eq_true rfl) (Nat.le_of_ble_eq_true rfl) (List.append_assoc _ _ _) ?_
  refine wl_astore_n (pc' := 20) (ls' := [(3, zR 63), (2, zR 53), (1, zR 0), (0, zK 50)]) dL_law_19 rfl rfl (by decide) rfl ?_
  refine wl_iconst (pc' := 21) dL_law_20 rfl ?_
  refine wl_istore (pc' := 23) (ls' := lL 0) dL_law_21 rfl (by decide) rfl ?_
  exact law_loop (by omega) 512 0 cI xI (fun _ => 0) _ _ (by decide) (by omega) (by omega) rel_0 (Nat.le_of_ble_eq_true rfl) (Nat.le_of_ble_eq_true rfl)
