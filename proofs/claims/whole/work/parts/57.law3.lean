/-! the law: its world and its calls -/
abbrev rM : List Nat := List.range' 53 10
abbrev LW (c : zCS) (m : List zE) (f : Int → Int) : List zE := wCS c ++ (m.map (zre rM) ++ [zA 2 1 f])
abbrev lL (i : Int) : List (Nat × zV) := [(4, zI i), (3, zR 63), (2, zR 53), (1, zR 0), (0, zK 50)]
abbrev q_L_law : zY := (yL_law, cL_law, 7, ret, [])
def PL : zP → List zE → Prop := fun o _ => o = .inl (some (zI 1))
theorem LW_out (c : zCS) (m : List zE) (f : Int → Int) (hm : m.length = 10) : (LW c m f)[63]? = some (zA 2 1 f) := by
  rw [List.getElem?_append_right (show (wCS c).length ≤ 63 from Nat.le_of_ble_eq_true rfl), List.getElem?_append_right (show (m.map (zre rM)).length ≤ 63 - (wCS c).length by rw [List.length_map, hm]; exact Nat.le_of_ble_eq_true rfl), List.length_map, hm]
  rfl
theorem rel_ok {c : zCS} {v pa tx : Int → Int} (h : RelM c v pa tx) : okC c := by
  obtain ⟨t, nm, s, D, H, ol, ct, k, y, si, fl, wi⟩ := c
  exact h.1
theorem agr_v {cd : String → Int} {r : zP} {b v : zV} {th : Int} (hr : r = .inl (some v)) (h : agr cd r b th) : b = v ∧ th = 0 := by
  subst hr
  exact ⟨(Option.some.inj h.1).symm, h.2⟩
theorem agr_x {cd : String → Int} {r : zP} {b : zV} {th : Int} {E : String} (hr : r = .inr E) (h : agr cd r b th) : th = cd E ∧ ∃ n : Int, b = zI n := by
  subst hr
  exact h
theorem cdz1 (E : String) : zin (cd1 E) ∧ ¬ cd1 E = 0 := ⟨by unfold cd1; decide, by unfold cd1; decide⟩
theorem cdz2 (e E : String) : zin (cd2 e E) ∧ ¬ cd2 e E = 0 := by
  unfold cd2
  split <;> decide
theorem zin_x (x : Int32) : zin x.toInt := ⟨by have := Int32.le_toInt x; omega, by have := Int32.toInt_lt x; omega⟩
theorem zin_and (a b : Int) : zin (zand a b) := zin_x _
def ShV (r : zP × zCS) : Prop := (∃ a, r.1 = .inl (some (zI a))) ∨ (∃ a, r.1 = .inl (some (zJ a))) ∨ ∃ E, r.1 = .inr E
theorem ShI.v {L : List String} {r : zP × zCS} (h : ShI L r) : ShV r := by
  rcases h with h | ⟨E, -, h⟩
  · exact Or.inl h
  · exact Or.inr (Or.inr ⟨E, h⟩)
section ZLW
variable {N : Nat} {xs : Nat → Int32} {Y Y1 : zY} {d d1 mc ms mc1 ms1 n0 : Nat} {Post : zP → List zE → Prop} {pc pc' : Nat} {ls : List (Nat × zV)} {st stk as : List zV} {nc ns : Nat}
theorem wl_x {c0 : zCS} {m : List zE} {f : Int → Int} {r : zP × zCS} {v : zV} {vc : vw_C} {idx n : Nat} (M : zMet Y1 d1 mc1 ms1 (zR 0 :: as) (wCS c0) (zX r.1 (wCS r.2))) (hr : r.1 = .inl (some v)) (hv : zrv (List.range 53) v = v) (hO : zOkV Y1 n) (hlink : Cond.methodLink Y.1.cls idx Y1.1 ∈ lw_tbl) (hd : decode Y.2.1 pc = .ok (.invokevirtual idx, 3)) (hp : pc + 3 = pc') (hstk : (as.map (zrv (List.range 53))).reverse ++ zR 0 :: st = stk) (hna : as.length = n) (hvc : vwCl[5]? = some vc) (hcls : vc.1 = Y1.1.cls) (hd1 : d1 + 1 ≤ d) (hcat : (st.map zcat).sum ≤ 8) (hh : Y.2.2.2.2 = []) (hmc : nc + mc1 ≤ mc) (hms : ns + ms1 ≤ ms) (k : WL N xs Y d mc ms n0 Post pc' ls (v :: st) (LW r.2 m f) (nc + mc1) (ns + ms1)) : WL N xs Y d mc ms n0 Post pc ls stk (LW c0 m f) nc ns := by
  refine wl_callV M hO hlink hd hp (List.range 53) (hsub_pre (w1 := wCS c0) (wCS_ok c0)) List.nodup_range hstk hna rfl hvc hcls hd1 hcat hh hmc hms (fun o w' h9 => by rw [h9.2]; rfl) (fun E w1' h9 => ?_) (fun v1 w1' h9 => ?_)
  · exact nomatch h9.1.trans hr
  · obtain ⟨h1, rfl⟩ := h9
    have h3 : v1 = some v := Sum.inl.inj (h1.trans hr)
    subst h3
    have hz : zins (zre (List.range 53)) (List.range 53) (wCS r.2) (LW c0 m f) = LW r.2 m f := zins_pre (w1 := wCS c0) rfl (wCS_ok _)
    rw [hz]
    have e : ((some v).map (zrv (List.range 53))).toList ++ st = v :: st := by rw [Option.map_some, hv]; rfl
    rw [e]
    exact k
theorem wl_h {c0 : zCS} {m : List zE} {f : Int → Int} {r : zP × zCS} {cd : String → Int} {idx n : Nat} {h1 : Nat × Nat × Nat × Nat} {ht : List (Nat × Nat × Nat × Nat)} (M : zMet Y1 d1 mc1 ms1 as (wCS c0 ++ [zA 2 1 f]) (LH cd r)) (hm : m.length = 10) (hO : zOkH Y1 n) (hhY : Y1.2.2.2.2 = h1 :: ht) (hlink : Cond.methodLink Y.1.cls idx Y1.1 ∈ lw_tbl) (hd : decode Y.2.1 pc = .ok (.invokestatic idx, 3)) (hp : pc + 3 = pc') (hstk : (as.map (zrv rH)).reverse ++ st = stk) (hna : as.length = n) (hd1 : d1 + 1 ≤ d) (hcat : (st.map zcat).sum ≤ 8) (hmc : nc + mc1 ≤ mc) (hms : ns + ms1 ≤ ms) (k : ∀ (cv : Int) (f1 : Int → Int), ((∃ a, r.1 = .inl (some (zI a)) ∧ cv = 0 ∧ f1 0 = (Int32.ofInt a).toInt) ∨ (∃ E, r.1 = .inr E ∧ cv = cd E)) → WL N xs Y d mc ms n0 Post pc' ls (zI cv :: st) (LW r.2 m f1) (nc + mc1) (ns + ms1)) : WL N xs Y d mc ms n0 Post pc ls stk (LW c0 m f) nc ns := by
  refine wl_callSH M hO hhY hlink hd hp rH (hsub_H (w1 := wCS c0) (b := []) rfl (wCS_ok c0) (by rw [List.length_map]; exact hm) rfl) (by decide +kernel) hstk hna hd1 hcat hmc hms (fun o w' h9 => ?_) (fun E w1' h9 => ?_) (fun v1 w1' h9 => ?_)
  · obtain ⟨f9, rfl, -⟩ := h9
    rfl
  · obtain ⟨f9, -, h9⟩ := h9
    rcases h9 with ⟨_, -, h, -⟩ | ⟨_, -, h⟩ <;> exact nomatch h
  · obtain ⟨f9, rfl, h9⟩ := h9
    have hz : zins (zre rH) rH (wCS r.2 ++ [zA 2 1 f9]) (LW c0 m f) = LW r.2 m f9 := zins_H (w1 := wCS c0) (b := []) rfl rfl (wCS_ok _) (by rw [List.length_map]; exact hm) rfl
    rw [hz]
    rcases h9 with ⟨a, g1, g2, g3⟩ | ⟨E, g1, g2⟩
    · have h3 : v1 = some (zI 0) := Sum.inl.inj g2
      subst h3
      exact k 0 f9 (Or.inl ⟨a, g1, rfl, g3⟩)
    · have h3 : v1 = some (zI (cd E)) := Sum.inl.inj g2
      subst h3
      exact k (cd E) f9 (Or.inr ⟨E, g1, rfl⟩)
theorem wl_m {c0 c1 : zCS} {x : zMX} {f : Int → Int} {r : zP × zCS} {cd : String → Int} {vc : vw_C} {idx n : Nat} (MW : zMetW Y1 d1 0 0 (zR 0 :: as) (wMR c0 x) (Gl cd r)) (hsv : ShV r) (hO : zOkV Y1 n) (hlink : Cond.methodLink Y.1.cls idx Y1.1 ∈ lw_tbl) (hd : decode Y.2.1 pc = .ok (.invokevirtual idx, 3)) (hp : pc + 3 = pc') (hstk : (as.map (zrv rM)).reverse ++ zR 53 :: st = stk) (hna : as.length = n) (hvc : vwCl[6]? = some vc) (hcls : vc.1 = Y1.1.cls) (hd1 : d1 + 1 ≤ d) (hcat : (st.map zcat).sum ≤ 8) (hh : Y.2.2.2.2 = []) (hmc : nc ≤ mc) (hms : ns ≤ ms) (k : ∀ (x1 : zMX) (b : zV), RelM r.2 x1.1 x1.2.1 x1.2.2.1 → agr cd r.1 b x1.2.2.2.1 → WL N xs Y d mc ms n0 Post pc' ls (b :: st) (LW c1 (wMR r.2 x1) f) nc ns) : WL N xs Y d mc ms n0 Post pc ls stk (LW c1 (wMR c0 x) f) nc ns := by
  obtain ⟨Q, M, hQ⟩ := MW
  refine wl_callV M hO hlink hd hp rM (hsub_seg (a := wCS c1) (w1 := wMR c0 x) rfl) List.nodup_range' hstk hna rfl hvc hcls hd1 hcat hh hmc hms (fun o w' h9 => ?_) (fun E w1' h9 => ?_) (fun v1 w1' h9 => ?_)
  · obtain ⟨x1, b, -, -, -, rfl⟩ := hQ _ _ h9
    rfl
  · obtain ⟨x1, b, -, -, h, -⟩ := hQ _ _ h9
    exact nomatch h
  · obtain ⟨x1, b, g1, g2, g3, rfl⟩ := hQ _ _ h9
    have h3 : v1 = some b := Sum.inl.inj g3
    subst h3
    have hz : zins (zre rM) rM (wMR r.2 x1) (LW c1 (wMR c0 x) f) = LW c1 (wMR r.2 x1) f := zins_seg (a := wCS c1) (w1 := wMR c0 x) rfl rfl
    rw [hz]
    have hb : zrv rM b = b := by
      rcases hsv with ⟨a, ha⟩ | ⟨a, ha⟩ | ⟨E, hE⟩
      · obtain ⟨rfl, -⟩ := agr_v ha g2
        rfl
      · obtain ⟨rfl, -⟩ := agr_v ha g2
        rfl
      · obtain ⟨-, n9, rfl⟩ := agr_x hE g2
        rfl
    have e : ((some b).map (zrv rM)).toList ++ st = b :: st := by rw [Option.map_some, hb]; rfl
    rw [e]
    exact k x1 b g1 g2
theorem wl_th {c0 c1 : zCS} {x : zMX} {f : Int → Int} (hlink : Cond.methodLink Y.1.cls 103 yX10_thrown ∈ lw_tbl) (hd : decode Y.2.1 pc = .ok (.invokevirtual 103, 3)) (hp : pc + 3 = pc') (hd1 : 1 ≤ d) (hcat : (st.map zcat).sum ≤ 8) (hh : Y.2.2.2.2 = []) (hmc : nc ≤ mc) (hms : ns ≤ ms) (k : WL N xs Y d mc ms n0 Post pc' ls (zI x.2.2.2.1 :: st) (LW c1 (wMR c0 x) f) nc ns) : WL N xs Y d mc ms n0 Post pc ls (zR 53 :: st) (LW c1 (wMR c0 x) f) nc ns := by
  refine wl_callV (Y1 := q_X10_thrown) (as := []) (k_X10_thrown x.1 x.2.1 c0.2.2.2.2.2.2.1 x.2.2.1 c0.1.1 c0.2.2.2.2.2.2.2.2.2.1 c0.2.2.2.2.2.2.2.2.2.2.1 c0.2.2.2.2.2.2.2.2.2.2.2 x.2.2.2.1 x.2.2.2.2.1 x.2.2.2.2.2.1 x.2.2.2.2.2.2.1 x.2.2.2.2.2.2.2.1 x.2.2.2.2.2.2.2.2.1 x.2.2.2.2.2.2.2.2.2.1 x.2.2.2.2.2.2.2.2.2.2.1 x.2.2.2.2.2.2.2.2.2.2.2.1 x.2.2.2.2.2.2.2.2.2.2.2.2.1 x.2.2.2.2.2.2.2.2.2.2.2.2.2.1 x.2.2.2.2.2.2.2.2.2.2.2.2.2.2.1 x.2.2.2.2.2.2.2.2.2.2.2.2.2.2.2.1 x.2.2.2.2.2.2.2.2.2.2.2.2.2.2.2.2) ok_X10_thrown hlink hd hp rM (hsub_seg (a := wCS c1) (w1 := wMR c0 x) rfl) List.nodup_range' rfl rfl rfl rfl rfl hd1 hcat hh hmc hms (fun o w' h9 => by rw [h9.2]) (fun E w1' h9 => nomatch h9.1) (fun v1 w1' h9 => ?_)
  obtain ⟨h1, rfl⟩ := h9
  have h3 : v1 = some (zI x.2.2.2.1) := Sum.inl.inj h1
  subst h3
  have hz : zins (zre rM) rM (wMR c0 x) (LW c1 (wMR c0 x) f) = LW c1 (wMR c0 x) f := zins_seg (a := wCS c1) (w1 := wMR c0 x) rfl rfl
  have e : ((some (zI x.2.2.2.1)).map (zrv rM)).toList ++ st = zI x.2.2.2.1 :: st := rfl
  rw [e]
  exact wl_fold k rfl rfl hz.symm
end ZLW
theorem R_type (c0 : zCS) (x : zMX) (h : RelM c0 x.1 x.2.1 x.2.2.1) (c : Int) (hc : zin c) : zMetW q_X10_type 1 0 0 [zR 0, zI c] (wMR c0 x) (Gl (cd2 eIA) (cs_type c c0)) := by
  exact r_type c0.1 c0.2.1 c0.2.2.1 c0.2.2.2.1 c0.2.2.2.2.1 c0.2.2.2.2.2.1 c0.2.2.2.2.2.2.1 c0.2.2.2.2.2.2.2.1 c0.2.2.2.2.2.2.2.2.1 c0.2.2.2.2.2.2.2.2.2.1 c0.2.2.2.2.2.2.2.2.2.2.1 c0.2.2.2.2.2.2.2.2.2.2.2 x.1 x.2.1 x.2.2.1 x.2.2.2.1 x.2.2.2.2.1 x.2.2.2.2.2.1 x.2.2.2.2.2.2.1 x.2.2.2.2.2.2.2.1 x.2.2.2.2.2.2.2.2.1 x.2.2.2.2.2.2.2.2.2.1 x.2.2.2.2.2.2.2.2.2.2.1 x.2.2.2.2.2.2.2.2.2.2.2.1 x.2.2.2.2.2.2.2.2.2.2.2.2.1 x.2.2.2.2.2.2.2.2.2.2.2.2.2.1 x.2.2.2.2.2.2.2.2.2.2.2.2.2.2.1 x.2.2.2.2.2.2.2.2.2.2.2.2.2.2.2.1 x.2.2.2.2.2.2.2.2.2.2.2.2.2.2.2.2 h c hc
set_option maxRecDepth 10000 in
theorem t_type {N : Nat} {xs : Nat → Int32} {mc ms nc ns : Nat} {i : Int} {c0 : zCS} {x : zMX} {f : Int → Int} (hN : N < 100000) (hi : 0 ≤ i ∧ i + 4 < N) (h : RelM c0 x.1 x.2.1 x.2.2.1) (hmc : nc + 3 ≤ mc) (hms : ns + 18 ≤ ms) (k : ∀ (c1 : zCS) (x1 : zMX) (f1 : Int → Int) (nc1 ns1 : Nat), RelM c1 x1.1 x1.2.1 x1.2.2.1 → nc1 ≤ nc + 3 → ns1 ≤ ns + 18 → WL N xs q_L_law 15 mc ms 0 PL 1922 (lL i) [] (LW c1 (wMR c1 x1) f1) nc1 ns1) : WL N xs q_L_law 15 mc ms 0 PL 200 (lL i) [] (LW c0 (wMR c0 x) f) nc ns := by
  have hok := rel_ok h
  refine wl_aload_n (pc' := 201) dL_law_200 rfl rfl rfl ?_
  refine wl_aload_n (pc' := 202) dL_law_201 rfl rfl rfl ?_
  refine wl_iload (pc' := 204) dL_law_202 rfl rfl ?_
  refine wl_iconst (pc' := 205) dL_law_204 rfl ?_
  refine wl_iadd (pc' := 206) dL_law_205 rfl ?_
  refine wl_sload (pc' := 207) dL_law_206 rfl (by omega) (by omega) (by omega) ?_
  refine wl_aload_n (pc' := 208) dL_law_207 rfl rfl rfl ?_
  refine wl_h (pc' := 211) (k_L_type c0 hok f ((xs (i + 1).toNat).toInt) (zin_x _)) rfl ok_L_type rfl lm_L_97 dL_law_208 rfl rfl rfl (Nat.le_of_ble_eq_true rfl) (Nat.le_of_ble_eq_true rfl) (by omega) (by omega) (fun cv f1 hcv => ?_)
  refine wl_istore (pc' := 213) (ls' := (5, zI cv) :: lL i) dL_law_211 rfl (by decide) rfl ?_
  refine wl_aload_n (pc' := 214) dL_law_213 rfl rfl rfl ?_
  refine wl_aload_n (pc' := 215) dL_law_214 rfl rfl rfl ?_
  refine wl_iload (pc' := 217) dL_law_215 rfl rfl ?_
  refine wl_iconst (pc' := 218) dL_law_217 rfl ?_
  refine wl_iadd (pc' := 219) dL_law_218 rfl ?_
  refine wl_sload (pc' := 220) dL_law_219 rfl (by omega) (by omega) (by omega) ?_
  refine wl_m (pc' := 223) (R_type c0 x h ((xs (i + 1).toNat).toInt) (zin_x _)) (sh_type ((xs (i + 1).toNat).toInt) c0).v ok_X10_type lm_L_102 dL_law_220 rfl rfl rfl rfl rfl (Nat.le_of_ble_eq_true rfl) (Nat.le_of_ble_eq_true rfl) rfl (by omega) (by omega) (fun x1 b hR1 hag => ?_)
  rcases hcv with ⟨a, ha, rfl, hf⟩ | ⟨E, hE, rfl⟩
  · obtain ⟨rfl, hth⟩ := agr_v ha hag
    refine wl_istore (pc' := 225) (ls' := (6, zI a) :: (5, zI (0)) :: lL i) dL_law_223 rfl (by decide) rfl ?_
    refine wl_aload_n (pc' := 226) dL_law_225 rfl rfl rfl ?_
    refine wl_th (pc' := 229) lm_L_103 dL_law_226 rfl (Nat.le_of_ble_eq_true rfl) (Nat.le_of_ble_eq_true rfl) rfl (by omega) (by omega) ?_
    refine wl_iload (pc' := 231) dL_law_229 rfl rfl ?_
    refine wl_icmpE (tgt := 236) dL_law_231 (by decide) hth ?_
    refine wl_iload (pc' := 238) dL_law_236 rfl rfl ?_
    refine wl_if_ne (tgt := 253) (pc' := 241) dL_law_238 (by decide) rfl (by decide) (fun hq => absurd rfl hq) (fun _ => ?_)
    refine wl_aload_n (pc' := 242) dL_law_241 rfl rfl rfl ?_
    refine wl_iconst (pc' := 243) dL_law_242 rfl ?_
    refine wl_laload (pc' := 244) (n := 1) (f := f1) dL_law_243 rfl (LW_out _ _ _ rfl) (by decide) (by decide) (by decide) ?_
    refine wl_iload (pc' := 246) dL_law_244 rfl rfl ?_
    refine wl_i2lG (pc' := 247) dL_law_246 rfl ?_
    refine wl_lcmpE (pc' := 248) dL_law_247 rfl hf ?_
    refine wl_if_eq (tgt := 253) (pc' := 251) dL_law_248 (by decide) rfl (by decide) (fun _ => ?_) (fun hq => absurd rfl hq)
    refine wl_goto (pc' := 1922) dL_law_253 (by decide) ?_
    refine wl_sub (ls' := lL i) [2, 3, 4, 5, 6] rfl ?_
    exact k _ x1 f1 _ _ hR1 (by omega) (by omega)
  · obtain ⟨hth, n9, rfl⟩ := agr_x hE hag
    refine wl_istore (pc' := 225) (ls' := (6, zI n9) :: (5, zI ((cd2 eIA) E)) :: lL i) dL_law_223 rfl (by decide) rfl ?_
    refine wl_aload_n (pc' := 226) dL_law_225 rfl rfl rfl ?_
    refine wl_th (pc' := 229) lm_L_103 dL_law_226 rfl (Nat.le_of_ble_eq_true rfl) (Nat.le_of_ble_eq_true rfl) rfl (by omega) (by omega) ?_
    refine wl_iload (pc' := 231) dL_law_229 rfl rfl ?_
    refine wl_icmpE (tgt := 236) dL_law_231 (by decide) hth ?_
    refine wl_iload (pc' := 238) dL_law_236 rfl rfl ?_
    refine wl_if_ne (tgt := 253) (pc' := 241) dL_law_238 (by decide) rfl (cdz2 _ E).1 (fun _ => ?_) (fun hq => absurd hq (cdz2 _ E).2)
    refine wl_goto (pc' := 1922) dL_law_253 (by decide) ?_
    refine wl_sub (ls' := lL i) [2, 3, 4, 5, 6] rfl ?_
    exact k _ x1 f1 _ _ hR1 (by omega) (by omega)
theorem sh_clearText  (c0 : zCS) : ShI [] (cs_clearText c0) := by
  obtain ⟨t, nm, s, D, H, ol, ct, k, y, si, fl, wi⟩ := c0
  unfold cs_clearText
  repeat' (first | exact sh_i | apply sh_ite)
theorem R_clearText (c0 : zCS) (x : zMX) (h : RelM c0 x.1 x.2.1 x.2.2.1)  : zMetW q_X10_clearText 0 0 0 [zR 0] (wMR c0 x) (Gl cd1 (cs_clearText c0)) := by
  exact r_clearText c0.1 c0.2.1 c0.2.2.1 c0.2.2.2.1 c0.2.2.2.2.1 c0.2.2.2.2.2.1 c0.2.2.2.2.2.2.1 c0.2.2.2.2.2.2.2.1 c0.2.2.2.2.2.2.2.2.1 c0.2.2.2.2.2.2.2.2.2.1 c0.2.2.2.2.2.2.2.2.2.2.1 c0.2.2.2.2.2.2.2.2.2.2.2 x.1 x.2.1 x.2.2.1 x.2.2.2.1 x.2.2.2.2.1 x.2.2.2.2.2.1 x.2.2.2.2.2.2.1 x.2.2.2.2.2.2.2.1 x.2.2.2.2.2.2.2.2.1 x.2.2.2.2.2.2.2.2.2.1 x.2.2.2.2.2.2.2.2.2.2.1 x.2.2.2.2.2.2.2.2.2.2.2.1 x.2.2.2.2.2.2.2.2.2.2.2.2.1 x.2.2.2.2.2.2.2.2.2.2.2.2.2.1 x.2.2.2.2.2.2.2.2.2.2.2.2.2.2.1 x.2.2.2.2.2.2.2.2.2.2.2.2.2.2.2.1 x.2.2.2.2.2.2.2.2.2.2.2.2.2.2.2.2 h
set_option maxRecDepth 10000 in
theorem t_clearText {N : Nat} {xs : Nat → Int32} {mc ms nc ns : Nat} {i : Int} {c0 : zCS} {x : zMX} {f : Int → Int} (hN : N < 100000) (hi : 0 ≤ i ∧ i + 4 < N) (h : RelM c0 x.1 x.2.1 x.2.2.1) (hmc : nc + 3 ≤ mc) (hms : ns + 18 ≤ ms) (k : ∀ (c1 : zCS) (x1 : zMX) (f1 : Int → Int) (nc1 ns1 : Nat), RelM c1 x1.1 x1.2.1 x1.2.2.1 → nc1 ≤ nc + 3 → ns1 ≤ ns + 18 → WL N xs q_L_law 15 mc ms 0 PL 1922 (lL i) [] (LW c1 (wMR c1 x1) f1) nc1 ns1) : WL N xs q_L_law 15 mc ms 0 PL 256 (lL i) [] (LW c0 (wMR c0 x) f) nc ns := by
  have hok := rel_ok h
  obtain ⟨a, ha⟩ : ∃ a, (cs_clearText c0).1 = .inl (some (zI a)) := by
    rcases (sh_clearText  c0) with h9 | ⟨E, hE, -⟩
    · exact h9
    · exact nomatch hE
  refine wl_aload_n (pc' := 257) dL_law_256 rfl rfl rfl ?_
  refine wl_x (pc' := 260) (k_X9_clearText c0.1 c0.2.1 c0.2.2.1 c0.2.2.2.1 c0.2.2.2.2.1 c0.2.2.2.2.2.1 c0.2.2.2.2.2.2.1 c0.2.2.2.2.2.2.2.1 c0.2.2.2.2.2.2.2.2.1 c0.2.2.2.2.2.2.2.2.2.1 c0.2.2.2.2.2.2.2.2.2.2.1 c0.2.2.2.2.2.2.2.2.2.2.2 hok) ha rfl ok_X9_clearText lm_L_106 dL_law_257 rfl rfl rfl rfl rfl (Nat.le_of_ble_eq_true rfl) (Nat.le_of_ble_eq_true rfl) rfl (by omega) (by omega) ?_
  refine wl_aload_n (pc' := 261) dL_law_260 rfl rfl rfl ?_
  refine wl_m (pc' := 264) (R_clearText c0 x h) (sh_clearText  c0).v ok_X10_clearText lm_L_109 dL_law_261 rfl rfl rfl rfl rfl (Nat.le_of_ble_eq_true rfl) (Nat.le_of_ble_eq_true rfl) rfl (by omega) (by omega) (fun x1 b hR1 hag => ?_)
  obtain ⟨rfl, -⟩ := agr_v ha hag
  refine wl_icmpE (tgt := 1922) dL_law_264 (by decide) rfl ?_
  exact k _ x1 f _ _ hR1 (by omega) (by omega)
theorem sh_read  (c0 : zCS) : ShI [] (cs_read c0) := by
  obtain ⟨t, nm, s, D, H, ol, ct, k, y, si, fl, wi⟩ := c0
  unfold cs_read
  repeat' (first | exact sh_i | apply sh_ite)
theorem R_read (c0 : zCS) (x : zMX) (h : RelM c0 x.1 x.2.1 x.2.2.1)  : zMetW q_X10_read 6 0 0 [zR 0] (wMR c0 x) (Gl cd1 (cs_read c0)) := by
  exact r_read c0.1 c0.2.1 c0.2.2.1 c0.2.2.2.1 c0.2.2.2.2.1 c0.2.2.2.2.2.1 c0.2.2.2.2.2.2.1 c0.2.2.2.2.2.2.2.1 c0.2.2.2.2.2.2.2.2.1 c0.2.2.2.2.2.2.2.2.2.1 c0.2.2.2.2.2.2.2.2.2.2.1 c0.2.2.2.2.2.2.2.2.2.2.2 x.1 x.2.1 x.2.2.1 x.2.2.2.1 x.2.2.2.2.1 x.2.2.2.2.2.1 x.2.2.2.2.2.2.1 x.2.2.2.2.2.2.2.1 x.2.2.2.2.2.2.2.2.1 x.2.2.2.2.2.2.2.2.2.1 x.2.2.2.2.2.2.2.2.2.2.1 x.2.2.2.2.2.2.2.2.2.2.2.1 x.2.2.2.2.2.2.2.2.2.2.2.2.1 x.2.2.2.2.2.2.2.2.2.2.2.2.2.1 x.2.2.2.2.2.2.2.2.2.2.2.2.2.2.1 x.2.2.2.2.2.2.2.2.2.2.2.2.2.2.2.1 x.2.2.2.2.2.2.2.2.2.2.2.2.2.2.2.2 h
set_option maxRecDepth 10000 in
theorem t_read {N : Nat} {xs : Nat → Int32} {mc ms nc ns : Nat} {i : Int} {c0 : zCS} {x : zMX} {f : Int → Int} (hN : N < 100000) (hi : 0 ≤ i ∧ i + 4 < N) (h : RelM c0 x.1 x.2.1 x.2.2.1) (hmc : nc + 3 ≤ mc) (hms : ns + 18 ≤ ms) (k : ∀ (c1 : zCS) (x1 : zMX) (f1 : Int → Int) (nc1 ns1 : Nat), RelM c1 x1.1 x1.2.1 x1.2.2.1 → nc1 ≤ nc + 3 → ns1 ≤ ns + 18 → WL N xs q_L_law 15 mc ms 0 PL 1922 (lL i) [] (LW c1 (wMR c1 x1) f1) nc1 ns1) : WL N xs q_L_law 15 mc ms 0 PL 269 (lL i) [] (LW c0 (wMR c0 x) f) nc ns := by
  have hok := rel_ok h
  obtain ⟨a, ha⟩ : ∃ a, (cs_read c0).1 = .inl (some (zI a)) := by
    rcases (sh_read  c0) with h9 | ⟨E, hE, -⟩
    · exact h9
    · exact nomatch hE
  refine wl_aload_n (pc' := 270) dL_law_269 rfl rfl rfl ?_
  refine wl_x (pc' := 273) (k_X9_read c0.1 c0.2.1 c0.2.2.1 c0.2.2.2.1 c0.2.2.2.2.1 c0.2.2.2.2.2.1 c0.2.2.2.2.2.2.1 c0.2.2.2.2.2.2.2.1 c0.2.2.2.2.2.2.2.2.1 c0.2.2.2.2.2.2.2.2.2.1 c0.2.2.2.2.2.2.2.2.2.2.1 c0.2.2.2.2.2.2.2.2.2.2.2 hok (rdS_P1 hok.1 hok.2.2.2.1 hok.2.2.2.2.2.2.2.1)) ha rfl ok_X9_read lm_L_110 dL_law_270 rfl rfl rfl rfl rfl (Nat.le_of_ble_eq_true rfl) (Nat.le_of_ble_eq_true rfl) rfl (by omega) (by omega) ?_
  refine wl_aload_n (pc' := 274) dL_law_273 rfl rfl rfl ?_
  refine wl_m (pc' := 277) (R_read c0 x h) (sh_read  c0).v ok_X10_read lm_L_113 dL_law_274 rfl rfl rfl rfl rfl (Nat.le_of_ble_eq_true rfl) (Nat.le_of_ble_eq_true rfl) rfl (by omega) (by omega) (fun x1 b hR1 hag => ?_)
  obtain ⟨rfl, -⟩ := agr_v ha hag
  refine wl_icmpE (tgt := 1922) dL_law_277 (by decide) rfl ?_
  exact k _ x1 f _ _ hR1 (by omega) (by omega)
theorem sh_setSimple (b : Int) (c0 : zCS) : ShI [] (cs_setSimple b c0) := by
  obtain ⟨t, nm, s, D, H, ol, ct, k, y, si, fl, wi⟩ := c0
  unfold cs_setSimple
  repeat' (first | exact sh_i | apply sh_ite)
theorem R_setSimple (c0 : zCS) (x : zMX) (h : RelM c0 x.1 x.2.1 x.2.2.1) (b : Int) (hb : b = 0 ∨ b = 1) : zMetW q_X10_setSimple 0 0 0 [zR 0, zI b] (wMR c0 x) (Gl cd1 (cs_setSimple b c0)) := by
  exact r_setSimple c0.1 c0.2.1 c0.2.2.1 c0.2.2.2.1 c0.2.2.2.2.1 c0.2.2.2.2.2.1 c0.2.2.2.2.2.2.1 c0.2.2.2.2.2.2.2.1 c0.2.2.2.2.2.2.2.2.1 c0.2.2.2.2.2.2.2.2.2.1 c0.2.2.2.2.2.2.2.2.2.2.1 c0.2.2.2.2.2.2.2.2.2.2.2 x.1 x.2.1 x.2.2.1 x.2.2.2.1 x.2.2.2.2.1 x.2.2.2.2.2.1 x.2.2.2.2.2.2.1 x.2.2.2.2.2.2.2.1 x.2.2.2.2.2.2.2.2.1 x.2.2.2.2.2.2.2.2.2.1 x.2.2.2.2.2.2.2.2.2.2.1 x.2.2.2.2.2.2.2.2.2.2.2.1 x.2.2.2.2.2.2.2.2.2.2.2.2.1 x.2.2.2.2.2.2.2.2.2.2.2.2.2.1 x.2.2.2.2.2.2.2.2.2.2.2.2.2.2.1 x.2.2.2.2.2.2.2.2.2.2.2.2.2.2.2.1 x.2.2.2.2.2.2.2.2.2.2.2.2.2.2.2.2 h b hb
set_option maxRecDepth 10000 in
theorem t_setSimple {N : Nat} {xs : Nat → Int32} {mc ms nc ns : Nat} {i : Int} {c0 : zCS} {x : zMX} {f : Int → Int} (hN : N < 100000) (hi : 0 ≤ i ∧ i + 4 < N) (h : RelM c0 x.1 x.2.1 x.2.2.1) (hmc : nc + 3 ≤ mc) (hms : ns + 18 ≤ ms) (k : ∀ (c1 : zCS) (x1 : zMX) (f1 : Int → Int) (nc1 ns1 : Nat), RelM c1 x1.1 x1.2.1 x1.2.2.1 → nc1 ≤ nc + 3 → ns1 ≤ ns + 18 → WL N xs q_L_law 15 mc ms 0 PL 1922 (lL i) [] (LW c1 (wMR c1 x1) f1) nc1 ns1) : WL N xs q_L_law 15 mc ms 0 PL 282 (lL i) [] (LW c0 (wMR c0 x) f) nc ns := by
  have hok := rel_ok h
  by_cases b9 : (xs (i + 1).toNat).toInt = 0
  · obtain ⟨a, ha⟩ : ∃ a, (cs_setSimple 0 c0).1 = .inl (some (zI a)) := by
      rcases (sh_setSimple (0) c0) with h9 | ⟨E, hE, -⟩
      · exact h9
      · exact nomatch hE
    refine wl_aload_n (pc' := 283) dL_law_282 rfl rfl rfl ?_
    refine wl_aload_n (pc' := 284) dL_law_283 rfl rfl rfl ?_
    refine wl_iload (pc' := 286) dL_law_284 rfl rfl ?_
    refine wl_iconst (pc' := 287) dL_law_286 rfl ?_
    refine wl_iadd (pc' := 288) dL_law_287 rfl ?_
    refine wl_sload (pc' := 289) dL_law_288 rfl (by omega) (by omega) (by omega) ?_
    refine wl_if_eq (tgt := 296) (pc' := 292) dL_law_289 (by decide) rfl (zin_x _) (fun _ => ?_) (fun hq => absurd b9 hq)
    refine wl_iconst (pc' := 297) dL_law_296 rfl ?_
    refine wl_x (pc' := 300) (k_X9_setSimple c0.1 c0.2.1 c0.2.2.1 c0.2.2.2.1 c0.2.2.2.2.1 c0.2.2.2.2.2.1 c0.2.2.2.2.2.2.1 c0.2.2.2.2.2.2.2.1 c0.2.2.2.2.2.2.2.2.1 c0.2.2.2.2.2.2.2.2.2.1 c0.2.2.2.2.2.2.2.2.2.2.1 c0.2.2.2.2.2.2.2.2.2.2.2 hok (0) (Or.inl rfl)) ha rfl ok_X9_setSimple lm_L_114 dL_law_297 rfl rfl rfl rfl rfl (Nat.le_of_ble_eq_true rfl) (Nat.le_of_ble_eq_true rfl) rfl (by omega) (by omega) ?_
    refine wl_aload_n (pc' := 301) dL_law_300 rfl rfl rfl ?_
    refine wl_aload_n (pc' := 302) dL_law_301 rfl rfl rfl ?_
    refine wl_iload (pc' := 304) dL_law_302 rfl rfl ?_
    refine wl_iconst (pc' := 305) dL_law_304 rfl ?_
    refine wl_iadd (pc' := 306) dL_law_305 rfl ?_
    refine wl_sload (pc' := 307) dL_law_306 rfl (by omega) (by omega) (by omega) ?_
    refine wl_if_eq (tgt := 314) (pc' := 310) dL_law_307 (by decide) rfl (zin_x _) (fun _ => ?_) (fun hq => absurd b9 hq)
    refine wl_iconst (pc' := 315) dL_law_314 rfl ?_
    refine wl_m (pc' := 318) (R_setSimple c0 x h (0) (Or.inl rfl)) (sh_setSimple (0) c0).v ok_X10_setSimple lm_L_118 dL_law_315 rfl rfl rfl rfl rfl (Nat.le_of_ble_eq_true rfl) (Nat.le_of_ble_eq_true rfl) rfl (by omega) (by omega) (fun x1 b hR1 hag => ?_)
    obtain ⟨rfl, -⟩ := agr_v ha hag
    refine wl_icmpE (tgt := 1922) dL_law_318 (by decide) rfl ?_
    exact k _ x1 f _ _ hR1 (by omega) (by omega)
  · obtain ⟨a, ha⟩ : ∃ a, (cs_setSimple 1 c0).1 = .inl (some (zI a)) := by
      rcases (sh_setSimple (1) c0) with h9 | ⟨E, hE, -⟩
      · exact h9
      · exact nomatch hE
    refine wl_aload_n (pc' := 283) dL_law_282 rfl rfl rfl ?_
    refine wl_aload_n (pc' := 284) dL_law_283 rfl rfl rfl ?_
    refine wl_iload (pc' := 286) dL_law_284 rfl rfl ?_
    refine wl_iconst (pc' := 287) dL_law_286 rfl ?_
    refine wl_iadd (pc' := 288) dL_law_287 rfl ?_
    refine wl_sload (pc' := 289) dL_law_288 rfl (by omega) (by omega) (by omega) ?_
    refine wl_if_eq (tgt := 296) (pc' := 292) dL_law_289 (by decide) rfl (zin_x _) (fun hq => absurd hq b9) (fun _ => ?_)
    refine wl_iconst (pc' := 293) dL_law_292 rfl ?_
    refine wl_goto (pc' := 297) dL_law_293 (by decide) ?_
    refine wl_x (pc' := 300) (k_X9_setSimple c0.1 c0.2.1 c0.2.2.1 c0.2.2.2.1 c0.2.2.2.2.1 c0.2.2.2.2.2.1 c0.2.2.2.2.2.2.1 c0.2.2.2.2.2.2.2.1 c0.2.2.2.2.2.2.2.2.1 c0.2.2.2.2.2.2.2.2.2.1 c0.2.2.2.2.2.2.2.2.2.2.1 c0.2.2.2.2.2.2.2.2.2.2.2 hok (1) (Or.inr rfl)) ha rfl ok_X9_setSimple lm_L_114 dL_law_297 rfl rfl rfl rfl rfl (Nat.le_of_ble_eq_true rfl) (Nat.le_of_ble_eq_true rfl) rfl (by omega) (by omega) ?_
    refine wl_aload_n (pc' := 301) dL_law_300 rfl rfl rfl ?_
    refine wl_aload_n (pc' := 302) dL_law_301 rfl rfl rfl ?_
    refine wl_iload (pc' := 304) dL_law_302 rfl rfl ?_
    refine wl_iconst (pc' := 305) dL_law_304 rfl ?_
    refine wl_iadd (pc' := 306) dL_law_305 rfl ?_
    refine wl_sload (pc' := 307) dL_law_306 rfl (by omega) (by omega) (by omega) ?_
    refine wl_if_eq (tgt := 314) (pc' := 310) dL_law_307 (by decide) rfl (zin_x _) (fun hq => absurd hq b9) (fun _ => ?_)
    refine wl_iconst (pc' := 311) dL_law_310 rfl ?_
    refine wl_goto (pc' := 315) dL_law_311 (by decide) ?_
    refine wl_m (pc' := 318) (R_setSimple c0 x h (1) (Or.inr rfl)) (sh_setSimple (1) c0).v ok_X10_setSimple lm_L_118 dL_law_315 rfl rfl rfl rfl rfl (Nat.le_of_ble_eq_true rfl) (Nat.le_of_ble_eq_true rfl) rfl (by omega) (by omega) (fun x1 b hR1 hag => ?_)
    obtain ⟨rfl, -⟩ := agr_v ha hag
    refine wl_icmpE (tgt := 1922) dL_law_318 (by decide) rfl ?_
    exact k _ x1 f _ _ hR1 (by omega) (by omega)
theorem sh_setFlats (b : Int) (c0 : zCS) : ShI [] (cs_setFlats b c0) := by
  obtain ⟨t, nm, s, D, H, ol, ct, k, y, si, fl, wi⟩ := c0
  unfold cs_setFlats
  repeat' (first | exact sh_i | apply sh_ite)
theorem R_setFlats (c0 : zCS) (x : zMX) (h : RelM c0 x.1 x.2.1 x.2.2.1) (b : Int) (hb : b = 0 ∨ b = 1) : zMetW q_X10_setFlats 0 0 0 [zR 0, zI b] (wMR c0 x) (Gl cd1 (cs_setFlats b c0)) := by
  exact r_setFlats c0.1 c0.2.1 c0.2.2.1 c0.2.2.2.1 c0.2.2.2.2.1 c0.2.2.2.2.2.1 c0.2.2.2.2.2.2.1 c0.2.2.2.2.2.2.2.1 c0.2.2.2.2.2.2.2.2.1 c0.2.2.2.2.2.2.2.2.2.1 c0.2.2.2.2.2.2.2.2.2.2.1 c0.2.2.2.2.2.2.2.2.2.2.2 x.1 x.2.1 x.2.2.1 x.2.2.2.1 x.2.2.2.2.1 x.2.2.2.2.2.1 x.2.2.2.2.2.2.1 x.2.2.2.2.2.2.2.1 x.2.2.2.2.2.2.2.2.1 x.2.2.2.2.2.2.2.2.2.1 x.2.2.2.2.2.2.2.2.2.2.1 x.2.2.2.2.2.2.2.2.2.2.2.1 x.2.2.2.2.2.2.2.2.2.2.2.2.1 x.2.2.2.2.2.2.2.2.2.2.2.2.2.1 x.2.2.2.2.2.2.2.2.2.2.2.2.2.2.1 x.2.2.2.2.2.2.2.2.2.2.2.2.2.2.2.1 x.2.2.2.2.2.2.2.2.2.2.2.2.2.2.2.2 h b hb
set_option maxRecDepth 10000 in
theorem t_setFlats {N : Nat} {xs : Nat → Int32} {mc ms nc ns : Nat} {i : Int} {c0 : zCS} {x : zMX} {f : Int → Int} (hN : N < 100000) (hi : 0 ≤ i ∧ i + 4 < N) (h : RelM c0 x.1 x.2.1 x.2.2.1) (hmc : nc + 3 ≤ mc) (hms : ns + 18 ≤ ms) (k : ∀ (c1 : zCS) (x1 : zMX) (f1 : Int → Int) (nc1 ns1 : Nat), RelM c1 x1.1 x1.2.1 x1.2.2.1 → nc1 ≤ nc + 3 → ns1 ≤ ns + 18 → WL N xs q_L_law 15 mc ms 0 PL 1922 (lL i) [] (LW c1 (wMR c1 x1) f1) nc1 ns1) : WL N xs q_L_law 15 mc ms 0 PL 323 (lL i) [] (LW c0 (wMR c0 x) f) nc ns := by
  have hok := rel_ok h
  by_cases b9 : (xs (i + 1).toNat).toInt = 0
  · obtain ⟨a, ha⟩ : ∃ a, (cs_setFlats 0 c0).1 = .inl (some (zI a)) := by
      rcases (sh_setFlats (0) c0) with h9 | ⟨E, hE, -⟩
      · exact h9
      · exact nomatch hE
    refine wl_aload_n (pc' := 324) dL_law_323 rfl rfl rfl ?_
    refine wl_aload_n (pc' := 325) dL_law_324 rfl rfl rfl ?_
    refine wl_iload (pc' := 327) dL_law_325 rfl rfl ?_
    refine wl_iconst (pc' := 328) dL_law_327 rfl ?_
    refine wl_iadd (pc' := 329) dL_law_328 rfl ?_
    refine wl_sload (pc' := 330) dL_law_329 rfl (by omega) (by omega) (by omega) ?_
    refine wl_if_eq (tgt := 337) (pc' := 333) dL_law_330 (by decide) rfl (zin_x _) (fun _ => ?_) (fun hq => absurd b9 hq)
    refine wl_iconst (pc' := 338) dL_law_337 rfl ?_
    refine wl_x (pc' := 341) (k_X9_setFlats c0.1 c0.2.1 c0.2.2.1 c0.2.2.2.1 c0.2.2.2.2.1 c0.2.2.2.2.2.1 c0.2.2.2.2.2.2.1 c0.2.2.2.2.2.2.2.1 c0.2.2.2.2.2.2.2.2.1 c0.2.2.2.2.2.2.2.2.2.1 c0.2.2.2.2.2.2.2.2.2.2.1 c0.2.2.2.2.2.2.2.2.2.2.2 hok (0) (Or.inl rfl)) ha rfl ok_X9_setFlats lm_L_119 dL_law_338 rfl rfl rfl rfl rfl (Nat.le_of_ble_eq_true rfl) (Nat.le_of_ble_eq_true rfl) rfl (by omega) (by omega) ?_
    refine wl_aload_n (pc' := 342) dL_law_341 rfl rfl rfl ?_
    refine wl_aload_n (pc' := 343) dL_law_342 rfl rfl rfl ?_
    refine wl_iload (pc' := 345) dL_law_343 rfl rfl ?_
    refine wl_iconst (pc' := 346) dL_law_345 rfl ?_
    refine wl_iadd (pc' := 347) dL_law_346 rfl ?_
    refine wl_sload (pc' := 348) dL_law_347 rfl (by omega) (by omega) (by omega) ?_
    refine wl_if_eq (tgt := 355) (pc' := 351) dL_law_348 (by decide) rfl (zin_x _) (fun _ => ?_) (fun hq => absurd b9 hq)
    refine wl_iconst (pc' := 356) dL_law_355 rfl ?_
    refine wl_m (pc' := 359) (R_setFlats c0 x h (0) (Or.inl rfl)) (sh_setFlats (0) c0).v ok_X10_setFlats lm_L_122 dL_law_356 rfl rfl rfl rfl rfl (Nat.le_of_ble_eq_true rfl) (Nat.le_of_ble_eq_true rfl) rfl (by omega) (by omega) (fun x1 b hR1 hag => ?_)
    obtain ⟨rfl, -⟩ := agr_v ha hag
    refine wl_icmpE (tgt := 1922) dL_law_359 (by decide) rfl ?_
    exact k _ x1 f _ _ hR1 (by omega) (by omega)
  · obtain ⟨a, ha⟩ : ∃ a, (cs_setFlats 1 c0).1 = .inl (some (zI a)) := by
      rcases (sh_setFlats (1) c0) with h9 | ⟨E, hE, -⟩
      · exact h9
      · exact nomatch hE
    refine wl_aload_n (pc' := 324) dL_law_323 rfl rfl rfl ?_
    refine wl_aload_n (pc' := 325) dL_law_324 rfl rfl rfl ?_
    refine wl_iload (pc' := 327) dL_law_325 rfl rfl ?_
    refine wl_iconst (pc' := 328) dL_law_327 rfl ?_
    refine wl_iadd (pc' := 329) dL_law_328 rfl ?_
    refine wl_sload (pc' := 330) dL_law_329 rfl (by omega) (by omega) (by omega) ?_
    refine wl_if_eq (tgt := 337) (pc' := 333) dL_law_330 (by decide) rfl (zin_x _) (fun hq => absurd hq b9) (fun _ => ?_)
    refine wl_iconst (pc' := 334) dL_law_333 rfl ?_
    refine wl_goto (pc' := 338) dL_law_334 (by decide) ?_
    refine wl_x (pc' := 341) (k_X9_setFlats c0.1 c0.2.1 c0.2.2.1 c0.2.2.2.1 c0.2.2.2.2.1 c0.2.2.2.2.2.1 c0.2.2.2.2.2.2.1 c0.2.2.2.2.2.2.2.1 c0.2.2.2.2.2.2.2.2.1 c0.2.2.2.2.2.2.2.2.2.1 c0.2.2.2.2.2.2.2.2.2.2.1 c0.2.2.2.2.2.2.2.2.2.2.2 hok (1) (Or.inr rfl)) ha rfl ok_X9_setFlats lm_L_119 dL_law_338 rfl rfl rfl rfl rfl (Nat.le_of_ble_eq_true rfl) (Nat.le_of_ble_eq_true rfl) rfl (by omega) (by omega) ?_
    refine wl_aload_n (pc' := 342) dL_law_341 rfl rfl rfl ?_
    refine wl_aload_n (pc' := 343) dL_law_342 rfl rfl rfl ?_
    refine wl_iload (pc' := 345) dL_law_343 rfl rfl ?_
    refine wl_iconst (pc' := 346) dL_law_345 rfl ?_
    refine wl_iadd (pc' := 347) dL_law_346 rfl ?_
    refine wl_sload (pc' := 348) dL_law_347 rfl (by omega) (by omega) (by omega) ?_
    refine wl_if_eq (tgt := 355) (pc' := 351) dL_law_348 (by decide) rfl (zin_x _) (fun hq => absurd hq b9) (fun _ => ?_)
    refine wl_iconst (pc' := 352) dL_law_351 rfl ?_
    refine wl_goto (pc' := 356) dL_law_352 (by decide) ?_
    refine wl_m (pc' := 359) (R_setFlats c0 x h (1) (Or.inr rfl)) (sh_setFlats (1) c0).v ok_X10_setFlats lm_L_122 dL_law_356 rfl rfl rfl rfl rfl (Nat.le_of_ble_eq_true rfl) (Nat.le_of_ble_eq_true rfl) rfl (by omega) (by omega) (fun x1 b hR1 hag => ?_)
    obtain ⟨rfl, -⟩ := agr_v ha hag
    refine wl_icmpE (tgt := 1922) dL_law_359 (by decide) rfl ?_
    exact k _ x1 f _ _ hR1 (by omega) (by omega)
theorem R_setWidth (c0 : zCS) (x : zMX) (h : RelM c0 x.1 x.2.1 x.2.2.1) (w : Int) (hw : zin w) : zMetW q_X10_setWidth 1 0 0 [zR 0, zI w] (wMR c0 x) (Gl cd1 (cs_setWidth w c0)) := by
  exact r_setWidth c0.1 c0.2.1 c0.2.2.1 c0.2.2.2.1 c0.2.2.2.2.1 c0.2.2.2.2.2.1 c0.2.2.2.2.2.2.1 c0.2.2.2.2.2.2.2.1 c0.2.2.2.2.2.2.2.2.1 c0.2.2.2.2.2.2.2.2.2.1 c0.2.2.2.2.2.2.2.2.2.2.1 c0.2.2.2.2.2.2.2.2.2.2.2 x.1 x.2.1 x.2.2.1 x.2.2.2.1 x.2.2.2.2.1 x.2.2.2.2.2.1 x.2.2.2.2.2.2.1 x.2.2.2.2.2.2.2.1 x.2.2.2.2.2.2.2.2.1 x.2.2.2.2.2.2.2.2.2.1 x.2.2.2.2.2.2.2.2.2.2.1 x.2.2.2.2.2.2.2.2.2.2.2.1 x.2.2.2.2.2.2.2.2.2.2.2.2.1 x.2.2.2.2.2.2.2.2.2.2.2.2.2.1 x.2.2.2.2.2.2.2.2.2.2.2.2.2.2.1 x.2.2.2.2.2.2.2.2.2.2.2.2.2.2.2.1 x.2.2.2.2.2.2.2.2.2.2.2.2.2.2.2.2 h w hw
set_option maxRecDepth 10000 in
theorem t_setWidth {N : Nat} {xs : Nat → Int32} {mc ms nc ns : Nat} {i : Int} {c0 : zCS} {x : zMX} {f : Int → Int} (hN : N < 100000) (hi : 0 ≤ i ∧ i + 4 < N) (h : RelM c0 x.1 x.2.1 x.2.2.1) (hmc : nc + 3 ≤ mc) (hms : ns + 18 ≤ ms) (k : ∀ (c1 : zCS) (x1 : zMX) (f1 : Int → Int) (nc1 ns1 : Nat), RelM c1 x1.1 x1.2.1 x1.2.2.1 → nc1 ≤ nc + 3 → ns1 ≤ ns + 18 → WL N xs q_L_law 15 mc ms 0 PL 1922 (lL i) [] (LW c1 (wMR c1 x1) f1) nc1 ns1) : WL N xs q_L_law 15 mc ms 0 PL 364 (lL i) [] (LW c0 (wMR c0 x) f) nc ns := by
  have hok := rel_ok h
  refine wl_aload_n (pc' := 365) dL_law_364 rfl rfl rfl ?_
  refine wl_aload_n (pc' := 366) dL_law_365 rfl rfl rfl ?_
  refine wl_iload (pc' := 368) dL_law_366 rfl rfl ?_
  refine wl_iconst (pc' := 369) dL_law_368 rfl ?_
  refine wl_iadd (pc' := 370) dL_law_369 rfl ?_
  refine wl_sload (pc' := 371) dL_law_370 rfl (by omega) (by omega) (by omega) ?_
  refine wl_aload_n (pc' := 372) dL_law_371 rfl rfl rfl ?_
  refine wl_h (pc' := 375) (k_L_setWidth c0 hok f ((xs (i + 1).toNat).toInt) (zin_x _)) rfl ok_L_setWidth rfl lm_L_123 dL_law_372 rfl rfl rfl (Nat.le_of_ble_eq_true rfl) (Nat.le_of_ble_eq_true rfl) (by omega) (by omega) (fun cv f1 hcv => ?_)
  refine wl_istore (pc' := 377) (ls' := (5, zI cv) :: lL i) dL_law_375 rfl (by decide) rfl ?_
  refine wl_aload_n (pc' := 378) dL_law_377 rfl rfl rfl ?_
  refine wl_aload_n (pc' := 379) dL_law_378 rfl rfl rfl ?_
  refine wl_iload (pc' := 381) dL_law_379 rfl rfl ?_
  refine wl_iconst (pc' := 382) dL_law_381 rfl ?_
  refine wl_iadd (pc' := 383) dL_law_382 rfl ?_
  refine wl_sload (pc' := 384) dL_law_383 rfl (by omega) (by omega) (by omega) ?_
  refine wl_m (pc' := 387) (R_setWidth c0 x h ((xs (i + 1).toNat).toInt) (zin_x _)) (sh_setWidth ((xs (i + 1).toNat).toInt) c0).v ok_X10_setWidth lm_L_125 dL_law_384 rfl rfl rfl rfl rfl (Nat.le_of_ble_eq_true rfl) (Nat.le_of_ble_eq_true rfl) rfl (by omega) (by omega) (fun x1 b hR1 hag => ?_)
  rcases hcv with ⟨a, ha, rfl, hf⟩ | ⟨E, hE, rfl⟩
  · obtain ⟨rfl, hth⟩ := agr_v ha hag
    refine wl_istore (pc' := 389) (ls' := (6, zI a) :: (5, zI (0)) :: lL i) dL_law_387 rfl (by decide) rfl ?_
    refine wl_aload_n (pc' := 390) dL_law_389 rfl rfl rfl ?_
    refine wl_th (pc' := 393) lm_L_103 dL_law_390 rfl (Nat.le_of_ble_eq_true rfl) (Nat.le_of_ble_eq_true rfl) rfl (by omega) (by omega) ?_
    refine wl_iload (pc' := 395) dL_law_393 rfl rfl ?_
    refine wl_icmpE (tgt := 400) dL_law_395 (by decide) hth ?_
    refine wl_iload (pc' := 402) dL_law_400 rfl rfl ?_
    refine wl_if_ne (tgt := 417) (pc' := 405) dL_law_402 (by decide) rfl (by decide) (fun hq => absurd rfl hq) (fun _ => ?_)
    refine wl_aload_n (pc' := 406) dL_law_405 rfl rfl rfl ?_
    refine wl_iconst (pc' := 407) dL_law_406 rfl ?_
    refine wl_laload (pc' := 408) (n := 1) (f := f1) dL_law_407 rfl (LW_out _ _ _ rfl) (by decide) (by decide) (by decide) ?_
    refine wl_iload (pc' := 410) dL_law_408 rfl rfl ?_
    refine wl_i2lG (pc' := 411) dL_law_410 rfl ?_
    refine wl_lcmpE (pc' := 412) dL_law_411 rfl hf ?_
    refine wl_if_eq (tgt := 417) (pc' := 415) dL_law_412 (by decide) rfl (by decide) (fun _ => ?_) (fun hq => absurd rfl hq)
    refine wl_goto (pc' := 1922) dL_law_417 (by decide) ?_
    refine wl_sub (ls' := lL i) [2, 3, 4, 5, 6] rfl ?_
    exact k _ x1 f1 _ _ hR1 (by omega) (by omega)
  · obtain ⟨hth, n9, rfl⟩ := agr_x hE hag
    refine wl_istore (pc' := 389) (ls' := (6, zI n9) :: (5, zI (cd1 E)) :: lL i) dL_law_387 rfl (by decide) rfl ?_
    refine wl_aload_n (pc' := 390) dL_law_389 rfl rfl rfl ?_
    refine wl_th (pc' := 393) lm_L_103 dL_law_390 rfl (Nat.le_of_ble_eq_true rfl) (Nat.le_of_ble_eq_true rfl) rfl (by omega) (by omega) ?_
    refine wl_iload (pc' := 395) dL_law_393 rfl rfl ?_
    refine wl_icmpE (tgt := 400) dL_law_395 (by decide) hth ?_
    refine wl_iload (pc' := 402) dL_law_400 rfl rfl ?_
    refine wl_if_ne (tgt := 417) (pc' := 405) dL_law_402 (by decide) rfl (cdz1 E).1 (fun _ => ?_) (fun hq => absurd hq (cdz1 E).2)
    refine wl_goto (pc' := 1922) dL_law_417 (by decide) ?_
    refine wl_sub (ls' := lL i) [2, 3, 4, 5, 6] rfl ?_
    exact k _ x1 f1 _ _ hR1 (by omega) (by omega)
theorem sh_lines  (c0 : zCS) : ShI [] (cs_lines c0) := by
  obtain ⟨t, nm, s, D, H, ol, ct, k, y, si, fl, wi⟩ := c0
  unfold cs_lines
  repeat' (first | exact sh_i | apply sh_ite)
theorem R_lines (c0 : zCS) (x : zMX) (h : RelM c0 x.1 x.2.1 x.2.2.1)  : zMetW q_X10_lines 0 0 0 [zR 0] (wMR c0 x) (Gl cd1 (cs_lines c0)) := by
  exact r_lines c0.1 c0.2.1 c0.2.2.1 c0.2.2.2.1 c0.2.2.2.2.1 c0.2.2.2.2.2.1 c0.2.2.2.2.2.2.1 c0.2.2.2.2.2.2.2.1 c0.2.2.2.2.2.2.2.2.1 c0.2.2.2.2.2.2.2.2.2.1 c0.2.2.2.2.2.2.2.2.2.2.1 c0.2.2.2.2.2.2.2.2.2.2.2 x.1 x.2.1 x.2.2.1 x.2.2.2.1 x.2.2.2.2.1 x.2.2.2.2.2.1 x.2.2.2.2.2.2.1 x.2.2.2.2.2.2.2.1 x.2.2.2.2.2.2.2.2.1 x.2.2.2.2.2.2.2.2.2.1 x.2.2.2.2.2.2.2.2.2.2.1 x.2.2.2.2.2.2.2.2.2.2.2.1 x.2.2.2.2.2.2.2.2.2.2.2.2.1 x.2.2.2.2.2.2.2.2.2.2.2.2.2.1 x.2.2.2.2.2.2.2.2.2.2.2.2.2.2.1 x.2.2.2.2.2.2.2.2.2.2.2.2.2.2.2.1 x.2.2.2.2.2.2.2.2.2.2.2.2.2.2.2.2 h
set_option maxRecDepth 10000 in
theorem t_lines {N : Nat} {xs : Nat → Int32} {mc ms nc ns : Nat} {i : Int} {c0 : zCS} {x : zMX} {f : Int → Int} (hN : N < 100000) (hi : 0 ≤ i ∧ i + 4 < N) (h : RelM c0 x.1 x.2.1 x.2.2.1) (hmc : nc + 3 ≤ mc) (hms : ns + 18 ≤ ms) (k : ∀ (c1 : zCS) (x1 : zMX) (f1 : Int → Int) (nc1 ns1 : Nat), RelM c1 x1.1 x1.2.1 x1.2.2.1 → nc1 ≤ nc + 3 → ns1 ≤ ns + 18 → WL N xs q_L_law 15 mc ms 0 PL 1922 (lL i) [] (LW c1 (wMR c1 x1) f1) nc1 ns1) : WL N xs q_L_law 15 mc ms 0 PL 420 (lL i) [] (LW c0 (wMR c0 x) f) nc ns := by
  have hok := rel_ok h
  obtain ⟨a, ha⟩ : ∃ a, (cs_lines c0).1 = .inl (some (zI a)) := by
    rcases (sh_lines  c0) with h9 | ⟨E, hE, -⟩
    · exact h9
    · exact nomatch hE
  refine wl_aload_n (pc' := 421) dL_law_420 rfl rfl rfl ?_
  refine wl_x (pc' := 424) (k_X9_lines c0.1 c0.2.1 c0.2.2.1 c0.2.2.2.1 c0.2.2.2.2.1 c0.2.2.2.2.2.1 c0.2.2.2.2.2.2.1 c0.2.2.2.2.2.2.2.1 c0.2.2.2.2.2.2.2.2.1 c0.2.2.2.2.2.2.2.2.2.1 c0.2.2.2.2.2.2.2.2.2.2.1 c0.2.2.2.2.2.2.2.2.2.2.2 hok) ha rfl ok_X9_lines lm_L_126 dL_law_421 rfl rfl rfl rfl rfl (Nat.le_of_ble_eq_true rfl) (Nat.le_of_ble_eq_true rfl) rfl (by omega) (by omega) ?_
  refine wl_aload_n (pc' := 425) dL_law_424 rfl rfl rfl ?_
  refine wl_m (pc' := 428) (R_lines c0 x h) (sh_lines  c0).v ok_X10_lines lm_L_129 dL_law_425 rfl rfl rfl rfl rfl (Nat.le_of_ble_eq_true rfl) (Nat.le_of_ble_eq_true rfl) rfl (by omega) (by omega) (fun x1 b hR1 hag => ?_)
  obtain ⟨rfl, -⟩ := agr_v ha hag
  refine wl_icmpE (tgt := 1922) dL_law_428 (by decide) rfl ?_
  exact k _ x1 f _ _ hR1 (by omega) (by omega)
theorem R_lyrics (c0 : zCS) (x : zMX) (h : RelM c0 x.1 x.2.1 x.2.2.1) (l : Int) (hl : zin l) : zMetW q_X10_lyrics 2 0 0 [zR 0, zI l] (wMR c0 x) (Gl cd1 (cs_lyrics l c0)) := by
  exact r_lyrics c0.1 c0.2.1 c0.2.2.1 c0.2.2.2.1 c0.2.2.2.2.1 c0.2.2.2.2.2.1 c0.2.2.2.2.2.2.1 c0.2.2.2.2.2.2.2.1 c0.2.2.2.2.2.2.2.2.1 c0.2.2.2.2.2.2.2.2.2.1 c0.2.2.2.2.2.2.2.2.2.2.1 c0.2.2.2.2.2.2.2.2.2.2.2 x.1 x.2.1 x.2.2.1 x.2.2.2.1 x.2.2.2.2.1 x.2.2.2.2.2.1 x.2.2.2.2.2.2.1 x.2.2.2.2.2.2.2.1 x.2.2.2.2.2.2.2.2.1 x.2.2.2.2.2.2.2.2.2.1 x.2.2.2.2.2.2.2.2.2.2.1 x.2.2.2.2.2.2.2.2.2.2.2.1 x.2.2.2.2.2.2.2.2.2.2.2.2.1 x.2.2.2.2.2.2.2.2.2.2.2.2.2.1 x.2.2.2.2.2.2.2.2.2.2.2.2.2.2.1 x.2.2.2.2.2.2.2.2.2.2.2.2.2.2.2.1 x.2.2.2.2.2.2.2.2.2.2.2.2.2.2.2.2 h l hl
set_option maxRecDepth 10000 in
theorem t_lyrics {N : Nat} {xs : Nat → Int32} {mc ms nc ns : Nat} {i : Int} {c0 : zCS} {x : zMX} {f : Int → Int} (hN : N < 100000) (hi : 0 ≤ i ∧ i + 4 < N) (h : RelM c0 x.1 x.2.1 x.2.2.1) (hmc : nc + 3 ≤ mc) (hms : ns + 18 ≤ ms) (k : ∀ (c1 : zCS) (x1 : zMX) (f1 : Int → Int) (nc1 ns1 : Nat), RelM c1 x1.1 x1.2.1 x1.2.2.1 → nc1 ≤ nc + 3 → ns1 ≤ ns + 18 → WL N xs q_L_law 15 mc ms 0 PL 1922 (lL i) [] (LW c1 (wMR c1 x1) f1) nc1 ns1) : WL N xs q_L_law 15 mc ms 0 PL 433 (lL i) [] (LW c0 (wMR c0 x) f) nc ns := by
  have hok := rel_ok h
  refine wl_aload_n (pc' := 434) dL_law_433 rfl rfl rfl ?_
  refine wl_aload_n (pc' := 435) dL_law_434 rfl rfl rfl ?_
  refine wl_iload (pc' := 437) dL_law_435 rfl rfl ?_
  refine wl_iconst (pc' := 438) dL_law_437 rfl ?_
  refine wl_iadd (pc' := 439) dL_law_438 rfl ?_
  refine wl_sload (pc' := 440) dL_law_439 rfl (by omega) (by omega) (by omega) ?_
  refine wl_aload_n (pc' := 441) dL_law_440 rfl rfl rfl ?_
  refine wl_h (pc' := 444) (k_L_lyrics c0 hok f ((xs (i + 1).toNat).toInt) (zin_x _)) rfl ok_L_lyrics rfl lm_L_130 dL_law_441 rfl rfl rfl (Nat.le_of_ble_eq_true rfl) (Nat.le_of_ble_eq_true rfl) (by omega) (by omega) (fun cv f1 hcv => ?_)
  refine wl_istore (pc' := 446) (ls' := (5, zI cv) :: lL i) dL_law_444 rfl (by decide) rfl ?_
  refine wl_aload_n (pc' := 447) dL_law_446 rfl rfl rfl ?_
  refine wl_aload_n (pc' := 448) dL_law_447 rfl rfl rfl ?_
  refine wl_iload (pc' := 450) dL_law_448 rfl rfl ?_
  refine wl_iconst (pc' := 451) dL_law_450 rfl ?_
  refine wl_iadd (pc' := 452) dL_law_451 rfl ?_
  refine wl_sload (pc' := 453) dL_law_452 rfl (by omega) (by omega) (by omega) ?_
  refine wl_m (pc' := 456) (R_lyrics c0 x h ((xs (i + 1).toNat).toInt) (zin_x _)) (sh_lyrics ((xs (i + 1).toNat).toInt) c0).v ok_X10_lyrics lm_L_132 dL_law_453 rfl rfl rfl rfl rfl (Nat.le_of_ble_eq_true rfl) (Nat.le_of_ble_eq_true rfl) rfl (by omega) (by omega) (fun x1 b hR1 hag => ?_)
  rcases hcv with ⟨a, ha, rfl, hf⟩ | ⟨E, hE, rfl⟩
  · obtain ⟨rfl, hth⟩ := agr_v ha hag
    refine wl_istore (pc' := 458) (ls' := (6, zI a) :: (5, zI (0)) :: lL i) dL_law_456 rfl (by decide) rfl ?_
    refine wl_aload_n (pc' := 459) dL_law_458 rfl rfl rfl ?_
    refine wl_th (pc' := 462) lm_L_103 dL_law_459 rfl (Nat.le_of_ble_eq_true rfl) (Nat.le_of_ble_eq_true rfl) rfl (by omega) (by omega) ?_
    refine wl_iload (pc' := 464) dL_law_462 rfl rfl ?_
    refine wl_icmpE (tgt := 469) dL_law_464 (by decide) hth ?_
    refine wl_iload (pc' := 471) dL_law_469 rfl rfl ?_
    refine wl_if_ne (tgt := 486) (pc' := 474) dL_law_471 (by decide) rfl (by decide) (fun hq => absurd rfl hq) (fun _ => ?_)
    refine wl_aload_n (pc' := 475) dL_law_474 rfl rfl rfl ?_
    refine wl_iconst (pc' := 476) dL_law_475 rfl ?_
    refine wl_laload (pc' := 477) (n := 1) (f := f1) dL_law_476 rfl (LW_out _ _ _ rfl) (by decide) (by decide) (by decide) ?_
    refine wl_iload (pc' := 479) dL_law_477 rfl rfl ?_
    refine wl_i2lG (pc' := 480) dL_law_479 rfl ?_
    refine wl_lcmpE (pc' := 481) dL_law_480 rfl hf ?_
    refine wl_if_eq (tgt := 486) (pc' := 484) dL_law_481 (by decide) rfl (by decide) (fun _ => ?_) (fun hq => absurd rfl hq)
    refine wl_goto (pc' := 1922) dL_law_486 (by decide) ?_
    refine wl_sub (ls' := lL i) [2, 3, 4, 5, 6] rfl ?_
    exact k _ x1 f1 _ _ hR1 (by omega) (by omega)
  · obtain ⟨hth, n9, rfl⟩ := agr_x hE hag
    refine wl_istore (pc' := 458) (ls' := (6, zI n9) :: (5, zI (cd1 E)) :: lL i) dL_law_456 rfl (by decide) rfl ?_
    refine wl_aload_n (pc' := 459) dL_law_458 rfl rfl rfl ?_
    refine wl_th (pc' := 462) lm_L_103 dL_law_459 rfl (Nat.le_of_ble_eq_true rfl) (Nat.le_of_ble_eq_true rfl) rfl (by omega) (by omega) ?_
    refine wl_iload (pc' := 464) dL_law_462 rfl rfl ?_
    refine wl_icmpE (tgt := 469) dL_law_464 (by decide) hth ?_
    refine wl_iload (pc' := 471) dL_law_469 rfl rfl ?_
    refine wl_if_ne (tgt := 486) (pc' := 474) dL_law_471 (by decide) rfl (cdz1 E).1 (fun _ => ?_) (fun hq => absurd hq (cdz1 E).2)
    refine wl_goto (pc' := 1922) dL_law_486 (by decide) ?_
    refine wl_sub (ls' := lL i) [2, 3, 4, 5, 6] rfl ?_
    exact k _ x1 f1 _ _ hR1 (by omega) (by omega)
theorem R_lyric (c0 : zCS) (x : zMX) (h : RelM c0 x.1 x.2.1 x.2.2.1) (l : Int) (hl : zin l) (c : Int) (hc : zin c) : zMetW q_X10_lyric 2 0 0 [zR 0, zI l, zI c] (wMR c0 x) (Gl cd1 (cs_lyric l c c0)) := by
  exact r_lyric c0.1 c0.2.1 c0.2.2.1 c0.2.2.2.1 c0.2.2.2.2.1 c0.2.2.2.2.2.1 c0.2.2.2.2.2.2.1 c0.2.2.2.2.2.2.2.1 c0.2.2.2.2.2.2.2.2.1 c0.2.2.2.2.2.2.2.2.2.1 c0.2.2.2.2.2.2.2.2.2.2.1 c0.2.2.2.2.2.2.2.2.2.2.2 x.1 x.2.1 x.2.2.1 x.2.2.2.1 x.2.2.2.2.1 x.2.2.2.2.2.1 x.2.2.2.2.2.2.1 x.2.2.2.2.2.2.2.1 x.2.2.2.2.2.2.2.2.1 x.2.2.2.2.2.2.2.2.2.1 x.2.2.2.2.2.2.2.2.2.2.1 x.2.2.2.2.2.2.2.2.2.2.2.1 x.2.2.2.2.2.2.2.2.2.2.2.2.1 x.2.2.2.2.2.2.2.2.2.2.2.2.2.1 x.2.2.2.2.2.2.2.2.2.2.2.2.2.2.1 x.2.2.2.2.2.2.2.2.2.2.2.2.2.2.2.1 x.2.2.2.2.2.2.2.2.2.2.2.2.2.2.2.2 h l hl c hc
set_option maxRecDepth 10000 in
theorem t_lyric {N : Nat} {xs : Nat → Int32} {mc ms nc ns : Nat} {i : Int} {c0 : zCS} {x : zMX} {f : Int → Int} (hN : N < 100000) (hi : 0 ≤ i ∧ i + 4 < N) (h : RelM c0 x.1 x.2.1 x.2.2.1) (hmc : nc + 3 ≤ mc) (hms : ns + 18 ≤ ms) (k : ∀ (c1 : zCS) (x1 : zMX) (f1 : Int → Int) (nc1 ns1 : Nat), RelM c1 x1.1 x1.2.1 x1.2.2.1 → nc1 ≤ nc + 3 → ns1 ≤ ns + 18 → WL N xs q_L_law 15 mc ms 0 PL 1922 (lL i) [] (LW c1 (wMR c1 x1) f1) nc1 ns1) : WL N xs q_L_law 15 mc ms 0 PL 489 (lL i) [] (LW c0 (wMR c0 x) f) nc ns := by
  have hok := rel_ok h
  refine wl_aload_n (pc' := 490) dL_law_489 rfl rfl rfl ?_
  refine wl_aload_n (pc' := 491) dL_law_490 rfl rfl rfl ?_
  refine wl_iload (pc' := 493) dL_law_491 rfl rfl ?_
  refine wl_iconst (pc' := 494) dL_law_493 rfl ?_
  refine wl_iadd (pc' := 495) dL_law_494 rfl ?_
  refine wl_sload (pc' := 496) dL_law_495 rfl (by omega) (by omega) (by omega) ?_
  refine wl_aload_n (pc' := 497) dL_law_496 rfl rfl rfl ?_
  refine wl_iload (pc' := 499) dL_law_497 rfl rfl ?_
  refine wl_iconst (pc' := 500) dL_law_499 rfl ?_
  refine wl_iadd (pc' := 501) dL_law_500 rfl ?_
  refine wl_sload (pc' := 502) dL_law_501 rfl (by omega) (by omega) (by omega) ?_
  refine wl_aload_n (pc' := 503) dL_law_502 rfl rfl rfl ?_
  refine wl_h (pc' := 506) (k_L_lyric c0 hok f ((xs (i + 1).toNat).toInt) (zin_x _) ((xs (i + 2).toNat).toInt) (zin_x _)) rfl ok_L_lyric rfl lm_L_133 dL_law_503 rfl rfl rfl (Nat.le_of_ble_eq_true rfl) (Nat.le_of_ble_eq_true rfl) (by omega) (by omega) (fun cv f1 hcv => ?_)
  refine wl_istore (pc' := 508) (ls' := (5, zI cv) :: lL i) dL_law_506 rfl (by decide) rfl ?_
  refine wl_aload_n (pc' := 509) dL_law_508 rfl rfl rfl ?_
  refine wl_aload_n (pc' := 510) dL_law_509 rfl rfl rfl ?_
  refine wl_iload (pc' := 512) dL_law_510 rfl rfl ?_
  refine wl_iconst (pc' := 513) dL_law_512 rfl ?_
  refine wl_iadd (pc' := 514) dL_law_513 rfl ?_
  refine wl_sload (pc' := 515) dL_law_514 rfl (by omega) (by omega) (by omega) ?_
  refine wl_aload_n (pc' := 516) dL_law_515 rfl rfl rfl ?_
  refine wl_iload (pc' := 518) dL_law_516 rfl rfl ?_
  refine wl_iconst (pc' := 519) dL_law_518 rfl ?_
  refine wl_iadd (pc' := 520) dL_law_519 rfl ?_
  refine wl_sload (pc' := 521) dL_law_520 rfl (by omega) (by omega) (by omega) ?_
  refine wl_m (pc' := 524) (R_lyric c0 x h ((xs (i + 1).toNat).toInt) (zin_x _) ((xs (i + 2).toNat).toInt) (zin_x _)) (sh_lyric ((xs (i + 1).toNat).toInt) ((xs (i + 2).toNat).toInt) c0).v ok_X10_lyric lm_L_136 dL_law_521 rfl rfl rfl rfl rfl (Nat.le_of_ble_eq_true rfl) (Nat.le_of_ble_eq_true rfl) rfl (by omega) (by omega) (fun x1 b hR1 hag => ?_)
  rcases hcv with ⟨a, ha, rfl, hf⟩ | ⟨E, hE, rfl⟩
  · obtain ⟨rfl, hth⟩ := agr_v ha hag
    refine wl_istore (pc' := 526) (ls' := (6, zI a) :: (5, zI (0)) :: lL i) dL_law_524 rfl (by decide) rfl ?_
    refine wl_aload_n (pc' := 527) dL_law_526 rfl rfl rfl ?_
    refine wl_th (pc' := 530) lm_L_103 dL_law_527 rfl (Nat.le_of_ble_eq_true rfl) (Nat.le_of_ble_eq_true rfl) rfl (by omega) (by omega) ?_
    refine wl_iload (pc' := 532) dL_law_530 rfl rfl ?_
    refine wl_icmpE (tgt := 537) dL_law_532 (by decide) hth ?_
    refine wl_iload (pc' := 539) dL_law_537 rfl rfl ?_
    refine wl_if_ne (tgt := 554) (pc' := 542) dL_law_539 (by decide) rfl (by decide) (fun hq => absurd rfl hq) (fun _ => ?_)
    refine wl_aload_n (pc' := 543) dL_law_542 rfl rfl rfl ?_
    refine wl_iconst (pc' := 544) dL_law_543 rfl ?_
    refine wl_laload (pc' := 545) (n := 1) (f := f1) dL_law_544 rfl (LW_out _ _ _ rfl) (by decide) (by decide) (by decide) ?_
    refine wl_iload (pc' := 547) dL_law_545 rfl rfl ?_
    refine wl_i2lG (pc' := 548) dL_law_547 rfl ?_
    refine wl_lcmpE (pc' := 549) dL_law_548 rfl hf ?_
    refine wl_if_eq (tgt := 554) (pc' := 552) dL_law_549 (by decide) rfl (by decide) (fun _ => ?_) (fun hq => absurd rfl hq)
    refine wl_goto (pc' := 1922) dL_law_554 (by decide) ?_
    refine wl_sub (ls' := lL i) [2, 3, 4, 5, 6] rfl ?_
    exact k _ x1 f1 _ _ hR1 (by omega) (by omega)
  · obtain ⟨hth, n9, rfl⟩ := agr_x hE hag
    refine wl_istore (pc' := 526) (ls' := (6, zI n9) :: (5, zI (cd1 E)) :: lL i) dL_law_524 rfl (by decide) rfl ?_
    refine wl_aload_n (pc' := 527) dL_law_526 rfl rfl rfl ?_
    refine wl_th (pc' := 530) lm_L_103 dL_law_527 rfl (Nat.le_of_ble_eq_true rfl) (Nat.le_of_ble_eq_true rfl) rfl (by omega) (by omega) ?_
    refine wl_iload (pc' := 532) dL_law_530 rfl rfl ?_
    refine wl_icmpE (tgt := 537) dL_law_532 (by decide) hth ?_
    refine wl_iload (pc' := 539) dL_law_537 rfl rfl ?_
    refine wl_if_ne (tgt := 554) (pc' := 542) dL_law_539 (by decide) rfl (cdz1 E).1 (fun _ => ?_) (fun hq => absurd hq (cdz1 E).2)
    refine wl_goto (pc' := 1922) dL_law_554 (by decide) ?_
    refine wl_sub (ls' := lL i) [2, 3, 4, 5, 6] rfl ?_
    exact k _ x1 f1 _ _ hR1 (by omega) (by omega)
theorem sh_chords  (c0 : zCS) : ShI [] (cs_chords c0) := by
  obtain ⟨t, nm, s, D, H, ol, ct, k, y, si, fl, wi⟩ := c0
  unfold cs_chords
  repeat' (first | exact sh_i | apply sh_ite)
theorem R_chords (c0 : zCS) (x : zMX) (h : RelM c0 x.1 x.2.1 x.2.2.1)  : zMetW q_X10_chords 0 0 0 [zR 0] (wMR c0 x) (Gl cd1 (cs_chords c0)) := by
  exact r_chords c0.1 c0.2.1 c0.2.2.1 c0.2.2.2.1 c0.2.2.2.2.1 c0.2.2.2.2.2.1 c0.2.2.2.2.2.2.1 c0.2.2.2.2.2.2.2.1 c0.2.2.2.2.2.2.2.2.1 c0.2.2.2.2.2.2.2.2.2.1 c0.2.2.2.2.2.2.2.2.2.2.1 c0.2.2.2.2.2.2.2.2.2.2.2 x.1 x.2.1 x.2.2.1 x.2.2.2.1 x.2.2.2.2.1 x.2.2.2.2.2.1 x.2.2.2.2.2.2.1 x.2.2.2.2.2.2.2.1 x.2.2.2.2.2.2.2.2.1 x.2.2.2.2.2.2.2.2.2.1 x.2.2.2.2.2.2.2.2.2.2.1 x.2.2.2.2.2.2.2.2.2.2.2.1 x.2.2.2.2.2.2.2.2.2.2.2.2.1 x.2.2.2.2.2.2.2.2.2.2.2.2.2.1 x.2.2.2.2.2.2.2.2.2.2.2.2.2.2.1 x.2.2.2.2.2.2.2.2.2.2.2.2.2.2.2.1 x.2.2.2.2.2.2.2.2.2.2.2.2.2.2.2.2 h
set_option maxRecDepth 10000 in
theorem t_chords {N : Nat} {xs : Nat → Int32} {mc ms nc ns : Nat} {i : Int} {c0 : zCS} {x : zMX} {f : Int → Int} (hN : N < 100000) (hi : 0 ≤ i ∧ i + 4 < N) (h : RelM c0 x.1 x.2.1 x.2.2.1) (hmc : nc + 3 ≤ mc) (hms : ns + 18 ≤ ms) (k : ∀ (c1 : zCS) (x1 : zMX) (f1 : Int → Int) (nc1 ns1 : Nat), RelM c1 x1.1 x1.2.1 x1.2.2.1 → nc1 ≤ nc + 3 → ns1 ≤ ns + 18 → WL N xs q_L_law 15 mc ms 0 PL 1922 (lL i) [] (LW c1 (wMR c1 x1) f1) nc1 ns1) : WL N xs q_L_law 15 mc ms 0 PL 557 (lL i) [] (LW c0 (wMR c0 x) f) nc ns := by
  have hok := rel_ok h
  obtain ⟨a, ha⟩ : ∃ a, (cs_chords c0).1 = .inl (some (zI a)) := by
    rcases (sh_chords  c0) with h9 | ⟨E, hE, -⟩
    · exact h9
    · exact nomatch hE
  refine wl_aload_n (pc' := 558) dL_law_557 rfl rfl rfl ?_
  refine wl_x (pc' := 561) (k_X9_chords c0.1 c0.2.1 c0.2.2.1 c0.2.2.2.1 c0.2.2.2.2.1 c0.2.2.2.2.2.1 c0.2.2.2.2.2.2.1 c0.2.2.2.2.2.2.2.1 c0.2.2.2.2.2.2.2.2.1 c0.2.2.2.2.2.2.2.2.2.1 c0.2.2.2.2.2.2.2.2.2.2.1 c0.2.2.2.2.2.2.2.2.2.2.2 hok) ha rfl ok_X9_chords lm_L_137 dL_law_558 rfl rfl rfl rfl rfl (Nat.le_of_ble_eq_true rfl) (Nat.le_of_ble_eq_true rfl) rfl (by omega) (by omega) ?_
  refine wl_aload_n (pc' := 562) dL_law_561 rfl rfl rfl ?_
  refine wl_m (pc' := 565) (R_chords c0 x h) (sh_chords  c0).v ok_X10_chords lm_L_140 dL_law_562 rfl rfl rfl rfl rfl (Nat.le_of_ble_eq_true rfl) (Nat.le_of_ble_eq_true rfl) rfl (by omega) (by omega) (fun x1 b hR1 hag => ?_)
  obtain ⟨rfl, -⟩ := agr_v ha hag
  refine wl_icmpE (tgt := 1922) dL_law_565 (by decide) rfl ?_
  exact k _ x1 f _ _ hR1 (by omega) (by omega)
theorem R_lineOf (c0 : zCS) (x : zMX) (h : RelM c0 x.1 x.2.1 x.2.2.1) (i : Int) (hi : zin i) : zMetW q_X10_lineOf 3 0 0 [zR 0, zI i] (wMR c0 x) (Gl cd1 (cs_lineOf i c0)) := by
  exact r_lineOf c0.1 c0.2.1 c0.2.2.1 c0.2.2.2.1 c0.2.2.2.2.1 c0.2.2.2.2.2.1 c0.2.2.2.2.2.2.1 c0.2.2.2.2.2.2.2.1 c0.2.2.2.2.2.2.2.2.1 c0.2.2.2.2.2.2.2.2.2.1 c0.2.2.2.2.2.2.2.2.2.2.1 c0.2.2.2.2.2.2.2.2.2.2.2 x.1 x.2.1 x.2.2.1 x.2.2.2.1 x.2.2.2.2.1 x.2.2.2.2.2.1 x.2.2.2.2.2.2.1 x.2.2.2.2.2.2.2.1 x.2.2.2.2.2.2.2.2.1 x.2.2.2.2.2.2.2.2.2.1 x.2.2.2.2.2.2.2.2.2.2.1 x.2.2.2.2.2.2.2.2.2.2.2.1 x.2.2.2.2.2.2.2.2.2.2.2.2.1 x.2.2.2.2.2.2.2.2.2.2.2.2.2.1 x.2.2.2.2.2.2.2.2.2.2.2.2.2.2.1 x.2.2.2.2.2.2.2.2.2.2.2.2.2.2.2.1 x.2.2.2.2.2.2.2.2.2.2.2.2.2.2.2.2 h i hi
set_option maxRecDepth 10000 in
theorem t_lineOf {N : Nat} {xs : Nat → Int32} {mc ms nc ns : Nat} {i : Int} {c0 : zCS} {x : zMX} {f : Int → Int} (hN : N < 100000) (hi : 0 ≤ i ∧ i + 4 < N) (h : RelM c0 x.1 x.2.1 x.2.2.1) (hmc : nc + 3 ≤ mc) (hms : ns + 18 ≤ ms) (k : ∀ (c1 : zCS) (x1 : zMX) (f1 : Int → Int) (nc1 ns1 : Nat), RelM c1 x1.1 x1.2.1 x1.2.2.1 → nc1 ≤ nc + 3 → ns1 ≤ ns + 18 → WL N xs q_L_law 15 mc ms 0 PL 1922 (lL i) [] (LW c1 (wMR c1 x1) f1) nc1 ns1) : WL N xs q_L_law 15 mc ms 0 PL 570 (lL i) [] (LW c0 (wMR c0 x) f) nc ns := by
  have hok := rel_ok h
  refine wl_aload_n (pc' := 571) dL_law_570 rfl rfl rfl ?_
  refine wl_aload_n (pc' := 572) dL_law_571 rfl rfl rfl ?_
  refine wl_iload (pc' := 574) dL_law_572 rfl rfl ?_
  refine wl_iconst (pc' := 575) dL_law_574 rfl ?_
  refine wl_iadd (pc' := 576) dL_law_575 rfl ?_
  refine wl_sload (pc' := 577) dL_law_576 rfl (by omega) (by omega) (by omega) ?_
  refine wl_aload_n (pc' := 578) dL_law_577 rfl rfl rfl ?_
  refine wl_h (pc' := 581) (k_L_lineOf c0 hok f ((xs (i + 1).toNat).toInt) (zin_x _)) rfl ok_L_lineOf rfl lm_L_141 dL_law_578 rfl rfl rfl (Nat.le_of_ble_eq_true rfl) (Nat.le_of_ble_eq_true rfl) (by omega) (by omega) (fun cv f1 hcv => ?_)
  refine wl_istore (pc' := 583) (ls' := (5, zI cv) :: lL i) dL_law_581 rfl (by decide) rfl ?_
  refine wl_aload_n (pc' := 584) dL_law_583 rfl rfl rfl ?_
  refine wl_aload_n (pc' := 585) dL_law_584 rfl rfl rfl ?_
  refine wl_iload (pc' := 587) dL_law_585 rfl rfl ?_
  refine wl_iconst (pc' := 588) dL_law_587 rfl ?_
  refine wl_iadd (pc' := 589) dL_law_588 rfl ?_
  refine wl_sload (pc' := 590) dL_law_589 rfl (by omega) (by omega) (by omega) ?_
  refine wl_m (pc' := 593) (R_lineOf c0 x h ((xs (i + 1).toNat).toInt) (zin_x _)) (sh_lineOf ((xs (i + 1).toNat).toInt) c0).v ok_X10_lineOf lm_L_143 dL_law_590 rfl rfl rfl rfl rfl (Nat.le_of_ble_eq_true rfl) (Nat.le_of_ble_eq_true rfl) rfl (by omega) (by omega) (fun x1 b hR1 hag => ?_)
  rcases hcv with ⟨a, ha, rfl, hf⟩ | ⟨E, hE, rfl⟩
  · obtain ⟨rfl, hth⟩ := agr_v ha hag
    refine wl_istore (pc' := 595) (ls' := (6, zI a) :: (5, zI (0)) :: lL i) dL_law_593 rfl (by decide) rfl ?_
    refine wl_aload_n (pc' := 596) dL_law_595 rfl rfl rfl ?_
    refine wl_th (pc' := 599) lm_L_103 dL_law_596 rfl (Nat.le_of_ble_eq_true rfl) (Nat.le_of_ble_eq_true rfl) rfl (by omega) (by omega) ?_
    refine wl_iload (pc' := 601) dL_law_599 rfl rfl ?_
    refine wl_icmpE (tgt := 606) dL_law_601 (by decide) hth ?_
    refine wl_iload (pc' := 608) dL_law_606 rfl rfl ?_
    refine wl_if_ne (tgt := 623) (pc' := 611) dL_law_608 (by decide) rfl (by decide) (fun hq => absurd rfl hq) (fun _ => ?_)
    refine wl_aload_n (pc' := 612) dL_law_611 rfl rfl rfl ?_
    refine wl_iconst (pc' := 613) dL_law_612 rfl ?_
    refine wl_laload (pc' := 614) (n := 1) (f := f1) dL_law_613 rfl (LW_out _ _ _ rfl) (by decide) (by decide) (by decide) ?_
    refine wl_iload (pc' := 616) dL_law_614 rfl rfl ?_
    refine wl_i2lG (pc' := 617) dL_law_616 rfl ?_
    refine wl_lcmpE (pc' := 618) dL_law_617 rfl hf ?_
    refine wl_if_eq (tgt := 623) (pc' := 621) dL_law_618 (by decide) rfl (by decide) (fun _ => ?_) (fun hq => absurd rfl hq)
    refine wl_goto (pc' := 1922) dL_law_623 (by decide) ?_
    refine wl_sub (ls' := lL i) [2, 3, 4, 5, 6] rfl ?_
    exact k _ x1 f1 _ _ hR1 (by omega) (by omega)
  · obtain ⟨hth, n9, rfl⟩ := agr_x hE hag
    refine wl_istore (pc' := 595) (ls' := (6, zI n9) :: (5, zI (cd1 E)) :: lL i) dL_law_593 rfl (by decide) rfl ?_
    refine wl_aload_n (pc' := 596) dL_law_595 rfl rfl rfl ?_
    refine wl_th (pc' := 599) lm_L_103 dL_law_596 rfl (Nat.le_of_ble_eq_true rfl) (Nat.le_of_ble_eq_true rfl) rfl (by omega) (by omega) ?_
    refine wl_iload (pc' := 601) dL_law_599 rfl rfl ?_
    refine wl_icmpE (tgt := 606) dL_law_601 (by decide) hth ?_
    refine wl_iload (pc' := 608) dL_law_606 rfl rfl ?_
    refine wl_if_ne (tgt := 623) (pc' := 611) dL_law_608 (by decide) rfl (cdz1 E).1 (fun _ => ?_) (fun hq => absurd hq (cdz1 E).2)
    refine wl_goto (pc' := 1922) dL_law_623 (by decide) ?_
    refine wl_sub (ls' := lL i) [2, 3, 4, 5, 6] rfl ?_
    exact k _ x1 f1 _ _ hR1 (by omega) (by omega)
theorem R_columnOf (c0 : zCS) (x : zMX) (h : RelM c0 x.1 x.2.1 x.2.2.1) (i : Int) (hi : zin i) : zMetW q_X10_columnOf 3 0 0 [zR 0, zI i] (wMR c0 x) (Gl cd1 (cs_columnOf i c0)) := by
  exact r_columnOf c0.1 c0.2.1 c0.2.2.1 c0.2.2.2.1 c0.2.2.2.2.1 c0.2.2.2.2.2.1 c0.2.2.2.2.2.2.1 c0.2.2.2.2.2.2.2.1 c0.2.2.2.2.2.2.2.2.1 c0.2.2.2.2.2.2.2.2.2.1 c0.2.2.2.2.2.2.2.2.2.2.1 c0.2.2.2.2.2.2.2.2.2.2.2 x.1 x.2.1 x.2.2.1 x.2.2.2.1 x.2.2.2.2.1 x.2.2.2.2.2.1 x.2.2.2.2.2.2.1 x.2.2.2.2.2.2.2.1 x.2.2.2.2.2.2.2.2.1 x.2.2.2.2.2.2.2.2.2.1 x.2.2.2.2.2.2.2.2.2.2.1 x.2.2.2.2.2.2.2.2.2.2.2.1 x.2.2.2.2.2.2.2.2.2.2.2.2.1 x.2.2.2.2.2.2.2.2.2.2.2.2.2.1 x.2.2.2.2.2.2.2.2.2.2.2.2.2.2.1 x.2.2.2.2.2.2.2.2.2.2.2.2.2.2.2.1 x.2.2.2.2.2.2.2.2.2.2.2.2.2.2.2.2 h i hi
set_option maxRecDepth 10000 in
theorem t_columnOf {N : Nat} {xs : Nat → Int32} {mc ms nc ns : Nat} {i : Int} {c0 : zCS} {x : zMX} {f : Int → Int} (hN : N < 100000) (hi : 0 ≤ i ∧ i + 4 < N) (h : RelM c0 x.1 x.2.1 x.2.2.1) (hmc : nc + 3 ≤ mc) (hms : ns + 18 ≤ ms) (k : ∀ (c1 : zCS) (x1 : zMX) (f1 : Int → Int) (nc1 ns1 : Nat), RelM c1 x1.1 x1.2.1 x1.2.2.1 → nc1 ≤ nc + 3 → ns1 ≤ ns + 18 → WL N xs q_L_law 15 mc ms 0 PL 1922 (lL i) [] (LW c1 (wMR c1 x1) f1) nc1 ns1) : WL N xs q_L_law 15 mc ms 0 PL 626 (lL i) [] (LW c0 (wMR c0 x) f) nc ns := by
  have hok := rel_ok h
  refine wl_aload_n (pc' := 627) dL_law_626 rfl rfl rfl ?_
  refine wl_aload_n (pc' := 628) dL_law_627 rfl rfl rfl ?_
  refine wl_iload (pc' := 630) dL_law_628 rfl rfl ?_
  refine wl_iconst (pc' := 631) dL_law_630 rfl ?_
  refine wl_iadd (pc' := 632) dL_law_631 rfl ?_
  refine wl_sload (pc' := 633) dL_law_632 rfl (by omega) (by omega) (by omega) ?_
  refine wl_aload_n (pc' := 634) dL_law_633 rfl rfl rfl ?_
  refine wl_h (pc' := 637) (k_L_columnOf c0 hok f ((xs (i + 1).toNat).toInt) (zin_x _)) rfl ok_L_columnOf rfl lm_L_144 dL_law_634 rfl rfl rfl (Nat.le_of_ble_eq_true rfl) (Nat.le_of_ble_eq_true rfl) (by omega) (by omega) (fun cv f1 hcv => ?_)
  refine wl_istore (pc' := 639) (ls' := (5, zI cv) :: lL i) dL_law_637 rfl (by decide) rfl ?_
  refine wl_aload_n (pc' := 640) dL_law_639 rfl rfl rfl ?_
  refine wl_aload_n (pc' := 641) dL_law_640 rfl rfl rfl ?_
  refine wl_iload (pc' := 643) dL_law_641 rfl rfl ?_
  refine wl_iconst (pc' := 644) dL_law_643 rfl ?_
  refine wl_iadd (pc' := 645) dL_law_644 rfl ?_
  refine wl_sload (pc' := 646) dL_law_645 rfl (by omega) (by omega) (by omega) ?_
  refine wl_m (pc' := 649) (R_columnOf c0 x h ((xs (i + 1).toNat).toInt) (zin_x _)) (sh_columnOf ((xs (i + 1).toNat).toInt) c0).v ok_X10_columnOf lm_L_146 dL_law_646 rfl rfl rfl rfl rfl (Nat.le_of_ble_eq_true rfl) (Nat.le_of_ble_eq_true rfl) rfl (by omega) (by omega) (fun x1 b hR1 hag => ?_)
  rcases hcv with ⟨a, ha, rfl, hf⟩ | ⟨E, hE, rfl⟩
  · obtain ⟨rfl, hth⟩ := agr_v ha hag
    refine wl_istore (pc' := 651) (ls' := (6, zI a) :: (5, zI (0)) :: lL i) dL_law_649 rfl (by decide) rfl ?_
    refine wl_aload_n (pc' := 652) dL_law_651 rfl rfl rfl ?_
    refine wl_th (pc' := 655) lm_L_103 dL_law_652 rfl (Nat.le_of_ble_eq_true rfl) (Nat.le_of_ble_eq_true rfl) rfl (by omega) (by omega) ?_
    refine wl_iload (pc' := 657) dL_law_655 rfl rfl ?_
    refine wl_icmpE (tgt := 662) dL_law_657 (by decide) hth ?_
    refine wl_iload (pc' := 664) dL_law_662 rfl rfl ?_
    refine wl_if_ne (tgt := 679) (pc' := 667) dL_law_664 (by decide) rfl (by decide) (fun hq => absurd rfl hq) (fun _ => ?_)
    refine wl_aload_n (pc' := 668) dL_law_667 rfl rfl rfl ?_
    refine wl_iconst (pc' := 669) dL_law_668 rfl ?_
    refine wl_laload (pc' := 670) (n := 1) (f := f1) dL_law_669 rfl (LW_out _ _ _ rfl) (by decide) (by decide) (by decide) ?_
    refine wl_iload (pc' := 672) dL_law_670 rfl rfl ?_
    refine wl_i2lG (pc' := 673) dL_law_672 rfl ?_
    refine wl_lcmpE (pc' := 674) dL_law_673 rfl hf ?_
    refine wl_if_eq (tgt := 679) (pc' := 677) dL_law_674 (by decide) rfl (by decide) (fun _ => ?_) (fun hq => absurd rfl hq)
    refine wl_goto (pc' := 1922) dL_law_679 (by decide) ?_
    refine wl_sub (ls' := lL i) [2, 3, 4, 5, 6] rfl ?_
    exact k _ x1 f1 _ _ hR1 (by omega) (by omega)
  · obtain ⟨hth, n9, rfl⟩ := agr_x hE hag
    refine wl_istore (pc' := 651) (ls' := (6, zI n9) :: (5, zI (cd1 E)) :: lL i) dL_law_649 rfl (by decide) rfl ?_
    refine wl_aload_n (pc' := 652) dL_law_651 rfl rfl rfl ?_
    refine wl_th (pc' := 655) lm_L_103 dL_law_652 rfl (Nat.le_of_ble_eq_true rfl) (Nat.le_of_ble_eq_true rfl) rfl (by omega) (by omega) ?_
    refine wl_iload (pc' := 657) dL_law_655 rfl rfl ?_
    refine wl_icmpE (tgt := 662) dL_law_657 (by decide) hth ?_
    refine wl_iload (pc' := 664) dL_law_662 rfl rfl ?_
    refine wl_if_ne (tgt := 679) (pc' := 667) dL_law_664 (by decide) rfl (cdz1 E).1 (fun _ => ?_) (fun hq => absurd hq (cdz1 E).2)
    refine wl_goto (pc' := 1922) dL_law_679 (by decide) ?_
    refine wl_sub (ls' := lL i) [2, 3, 4, 5, 6] rfl ?_
    exact k _ x1 f1 _ _ hR1 (by omega) (by omega)
theorem R_rootOf (c0 : zCS) (x : zMX) (h : RelM c0 x.1 x.2.1 x.2.2.1) (i : Int) (hi : zin i) : zMetW q_X10_rootOf 3 0 0 [zR 0, zI i] (wMR c0 x) (Gl cd1 (cs_rootOf i c0)) := by
  exact r_rootOf c0.1 c0.2.1 c0.2.2.1 c0.2.2.2.1 c0.2.2.2.2.1 c0.2.2.2.2.2.1 c0.2.2.2.2.2.2.1 c0.2.2.2.2.2.2.2.1 c0.2.2.2.2.2.2.2.2.1 c0.2.2.2.2.2.2.2.2.2.1 c0.2.2.2.2.2.2.2.2.2.2.1 c0.2.2.2.2.2.2.2.2.2.2.2 x.1 x.2.1 x.2.2.1 x.2.2.2.1 x.2.2.2.2.1 x.2.2.2.2.2.1 x.2.2.2.2.2.2.1 x.2.2.2.2.2.2.2.1 x.2.2.2.2.2.2.2.2.1 x.2.2.2.2.2.2.2.2.2.1 x.2.2.2.2.2.2.2.2.2.2.1 x.2.2.2.2.2.2.2.2.2.2.2.1 x.2.2.2.2.2.2.2.2.2.2.2.2.1 x.2.2.2.2.2.2.2.2.2.2.2.2.2.1 x.2.2.2.2.2.2.2.2.2.2.2.2.2.2.1 x.2.2.2.2.2.2.2.2.2.2.2.2.2.2.2.1 x.2.2.2.2.2.2.2.2.2.2.2.2.2.2.2.2 h i hi
set_option maxRecDepth 10000 in
theorem t_rootOf {N : Nat} {xs : Nat → Int32} {mc ms nc ns : Nat} {i : Int} {c0 : zCS} {x : zMX} {f : Int → Int} (hN : N < 100000) (hi : 0 ≤ i ∧ i + 4 < N) (h : RelM c0 x.1 x.2.1 x.2.2.1) (hmc : nc + 3 ≤ mc) (hms : ns + 18 ≤ ms) (k : ∀ (c1 : zCS) (x1 : zMX) (f1 : Int → Int) (nc1 ns1 : Nat), RelM c1 x1.1 x1.2.1 x1.2.2.1 → nc1 ≤ nc + 3 → ns1 ≤ ns + 18 → WL N xs q_L_law 15 mc ms 0 PL 1922 (lL i) [] (LW c1 (wMR c1 x1) f1) nc1 ns1) : WL N xs q_L_law 15 mc ms 0 PL 682 (lL i) [] (LW c0 (wMR c0 x) f) nc ns := by
  have hok := rel_ok h
  refine wl_aload_n (pc' := 683) dL_law_682 rfl rfl rfl ?_
  refine wl_aload_n (pc' := 684) dL_law_683 rfl rfl rfl ?_
  refine wl_iload (pc' := 686) dL_law_684 rfl rfl ?_
  refine wl_iconst (pc' := 687) dL_law_686 rfl ?_
  refine wl_iadd (pc' := 688) dL_law_687 rfl ?_
  refine wl_sload (pc' := 689) dL_law_688 rfl (by omega) (by omega) (by omega) ?_
  refine wl_aload_n (pc' := 690) dL_law_689 rfl rfl rfl ?_
  refine wl_h (pc' := 693) (k_L_rootOf c0 hok f ((xs (i + 1).toNat).toInt) (zin_x _)) rfl ok_L_rootOf rfl lm_L_147 dL_law_690 rfl rfl rfl (Nat.le_of_ble_eq_true rfl) (Nat.le_of_ble_eq_true rfl) (by omega) (by omega) (fun cv f1 hcv => ?_)
  refine wl_istore (pc' := 695) (ls' := (5, zI cv) :: lL i) dL_law_693 rfl (by decide) rfl ?_
  refine wl_aload_n (pc' := 696) dL_law_695 rfl rfl rfl ?_
  refine wl_aload_n (pc' := 697) dL_law_696 rfl rfl rfl ?_
  refine wl_iload (pc' := 699) dL_law_697 rfl rfl ?_
  refine wl_iconst (pc' := 700) dL_law_699 rfl ?_
  refine wl_iadd (pc' := 701) dL_law_700 rfl ?_
  refine wl_sload (pc' := 702) dL_law_701 rfl (by omega) (by omega) (by omega) ?_
  refine wl_m (pc' := 705) (R_rootOf c0 x h ((xs (i + 1).toNat).toInt) (zin_x _)) (sh_rootOf ((xs (i + 1).toNat).toInt) c0).v ok_X10_rootOf lm_L_149 dL_law_702 rfl rfl rfl rfl rfl (Nat.le_of_ble_eq_true rfl) (Nat.le_of_ble_eq_true rfl) rfl (by omega) (by omega) (fun x1 b hR1 hag => ?_)
  rcases hcv with ⟨a, ha, rfl, hf⟩ | ⟨E, hE, rfl⟩
  · obtain ⟨rfl, hth⟩ := agr_v ha hag
    refine wl_istore (pc' := 707) (ls' := (6, zI a) :: (5, zI (0)) :: lL i) dL_law_705 rfl (by decide) rfl ?_
    refine wl_aload_n (pc' := 708) dL_law_707 rfl rfl rfl ?_
    refine wl_th (pc' := 711) lm_L_103 dL_law_708 rfl (Nat.le_of_ble_eq_true rfl) (Nat.le_of_ble_eq_true rfl) rfl (by omega) (by omega) ?_
    refine wl_iload (pc' := 713) dL_law_711 rfl rfl ?_
    refine wl_icmpE (tgt := 718) dL_law_713 (by decide) hth ?_
    refine wl_iload (pc' := 720) dL_law_718 rfl rfl ?_
    refine wl_if_ne (tgt := 735) (pc' := 723) dL_law_720 (by decide) rfl (by decide) (fun hq => absurd rfl hq) (fun _ => ?_)
    refine wl_aload_n (pc' := 724) dL_law_723 rfl rfl rfl ?_
    refine wl_iconst (pc' := 725) dL_law_724 rfl ?_
    refine wl_laload (pc' := 726) (n := 1) (f := f1) dL_law_725 rfl (LW_out _ _ _ rfl) (by decide) (by decide) (by decide) ?_
    refine wl_iload (pc' := 728) dL_law_726 rfl rfl ?_
    refine wl_i2lG (pc' := 729) dL_law_728 rfl ?_
    refine wl_lcmpE (pc' := 730) dL_law_729 rfl hf ?_
    refine wl_if_eq (tgt := 735) (pc' := 733) dL_law_730 (by decide) rfl (by decide) (fun _ => ?_) (fun hq => absurd rfl hq)
    refine wl_goto (pc' := 1922) dL_law_735 (by decide) ?_
    refine wl_sub (ls' := lL i) [2, 3, 4, 5, 6] rfl ?_
    exact k _ x1 f1 _ _ hR1 (by omega) (by omega)
  · obtain ⟨hth, n9, rfl⟩ := agr_x hE hag
    refine wl_istore (pc' := 707) (ls' := (6, zI n9) :: (5, zI (cd1 E)) :: lL i) dL_law_705 rfl (by decide) rfl ?_
    refine wl_aload_n (pc' := 708) dL_law_707 rfl rfl rfl ?_
    refine wl_th (pc' := 711) lm_L_103 dL_law_708 rfl (Nat.le_of_ble_eq_true rfl) (Nat.le_of_ble_eq_true rfl) rfl (by omega) (by omega) ?_
    refine wl_iload (pc' := 713) dL_law_711 rfl rfl ?_
    refine wl_icmpE (tgt := 718) dL_law_713 (by decide) hth ?_
    refine wl_iload (pc' := 720) dL_law_718 rfl rfl ?_
    refine wl_if_ne (tgt := 735) (pc' := 723) dL_law_720 (by decide) rfl (cdz1 E).1 (fun _ => ?_) (fun hq => absurd hq (cdz1 E).2)
    refine wl_goto (pc' := 1922) dL_law_735 (by decide) ?_
    refine wl_sub (ls' := lL i) [2, 3, 4, 5, 6] rfl ?_
    exact k _ x1 f1 _ _ hR1 (by omega) (by omega)
theorem R_qualityOf (c0 : zCS) (x : zMX) (h : RelM c0 x.1 x.2.1 x.2.2.1) (i : Int) (hi : zin i) : zMetW q_X10_qualityOf 3 0 0 [zR 0, zI i] (wMR c0 x) (Gl cd1 (cs_qualityOf i c0)) := by
  exact r_qualityOf c0.1 c0.2.1 c0.2.2.1 c0.2.2.2.1 c0.2.2.2.2.1 c0.2.2.2.2.2.1 c0.2.2.2.2.2.2.1 c0.2.2.2.2.2.2.2.1 c0.2.2.2.2.2.2.2.2.1 c0.2.2.2.2.2.2.2.2.2.1 c0.2.2.2.2.2.2.2.2.2.2.1 c0.2.2.2.2.2.2.2.2.2.2.2 x.1 x.2.1 x.2.2.1 x.2.2.2.1 x.2.2.2.2.1 x.2.2.2.2.2.1 x.2.2.2.2.2.2.1 x.2.2.2.2.2.2.2.1 x.2.2.2.2.2.2.2.2.1 x.2.2.2.2.2.2.2.2.2.1 x.2.2.2.2.2.2.2.2.2.2.1 x.2.2.2.2.2.2.2.2.2.2.2.1 x.2.2.2.2.2.2.2.2.2.2.2.2.1 x.2.2.2.2.2.2.2.2.2.2.2.2.2.1 x.2.2.2.2.2.2.2.2.2.2.2.2.2.2.1 x.2.2.2.2.2.2.2.2.2.2.2.2.2.2.2.1 x.2.2.2.2.2.2.2.2.2.2.2.2.2.2.2.2 h i hi
set_option maxRecDepth 10000 in
theorem t_qualityOf {N : Nat} {xs : Nat → Int32} {mc ms nc ns : Nat} {i : Int} {c0 : zCS} {x : zMX} {f : Int → Int} (hN : N < 100000) (hi : 0 ≤ i ∧ i + 4 < N) (h : RelM c0 x.1 x.2.1 x.2.2.1) (hmc : nc + 3 ≤ mc) (hms : ns + 18 ≤ ms) (k : ∀ (c1 : zCS) (x1 : zMX) (f1 : Int → Int) (nc1 ns1 : Nat), RelM c1 x1.1 x1.2.1 x1.2.2.1 → nc1 ≤ nc + 3 → ns1 ≤ ns + 18 → WL N xs q_L_law 15 mc ms 0 PL 1922 (lL i) [] (LW c1 (wMR c1 x1) f1) nc1 ns1) : WL N xs q_L_law 15 mc ms 0 PL 738 (lL i) [] (LW c0 (wMR c0 x) f) nc ns := by
  have hok := rel_ok h
  refine wl_aload_n (pc' := 739) dL_law_738 rfl rfl rfl ?_
  refine wl_aload_n (pc' := 740) dL_law_739 rfl rfl rfl ?_
  refine wl_iload (pc' := 742) dL_law_740 rfl rfl ?_
  refine wl_iconst (pc' := 743) dL_law_742 rfl ?_
  refine wl_iadd (pc' := 744) dL_law_743 rfl ?_
  refine wl_sload (pc' := 745) dL_law_744 rfl (by omega) (by omega) (by omega) ?_
  refine wl_aload_n (pc' := 746) dL_law_745 rfl rfl rfl ?_
  refine wl_h (pc' := 749) (k_L_qualityOf c0 hok f ((xs (i + 1).toNat).toInt) (zin_x _)) rfl ok_L_qualityOf rfl lm_L_150 dL_law_746 rfl rfl rfl (Nat.le_of_ble_eq_true rfl) (Nat.le_of_ble_eq_true rfl) (by omega) (by omega) (fun cv f1 hcv => ?_)
  refine wl_istore (pc' := 751) (ls' := (5, zI cv) :: lL i) dL_law_749 rfl (by decide) rfl ?_
  refine wl_aload_n (pc' := 752) dL_law_751 rfl rfl rfl ?_
  refine wl_aload_n (pc' := 753) dL_law_752 rfl rfl rfl ?_
  refine wl_iload (pc' := 755) dL_law_753 rfl rfl ?_
  refine wl_iconst (pc' := 756) dL_law_755 rfl ?_
  refine wl_iadd (pc' := 757) dL_law_756 rfl ?_
  refine wl_sload (pc' := 758) dL_law_757 rfl (by omega) (by omega) (by omega) ?_
  refine wl_m (pc' := 761) (R_qualityOf c0 x h ((xs (i + 1).toNat).toInt) (zin_x _)) (sh_qualityOf ((xs (i + 1).toNat).toInt) c0).v ok_X10_qualityOf lm_L_152 dL_law_758 rfl rfl rfl rfl rfl (Nat.le_of_ble_eq_true rfl) (Nat.le_of_ble_eq_true rfl) rfl (by omega) (by omega) (fun x1 b hR1 hag => ?_)
  rcases hcv with ⟨a, ha, rfl, hf⟩ | ⟨E, hE, rfl⟩
  · obtain ⟨rfl, hth⟩ := agr_v ha hag
    refine wl_istore (pc' := 763) (ls' := (6, zI a) :: (5, zI (0)) :: lL i) dL_law_761 rfl (by decide) rfl ?_
    refine wl_aload_n (pc' := 764) dL_law_763 rfl rfl rfl ?_
    refine wl_th (pc' := 767) lm_L_103 dL_law_764 rfl (Nat.le_of_ble_eq_true rfl) (Nat.le_of_ble_eq_true rfl) rfl (by omega) (by omega) ?_
    refine wl_iload (pc' := 769) dL_law_767 rfl rfl ?_
    refine wl_icmpE (tgt := 774) dL_law_769 (by decide) hth ?_
    refine wl_iload (pc' := 776) dL_law_774 rfl rfl ?_
    refine wl_if_ne (tgt := 791) (pc' := 779) dL_law_776 (by decide) rfl (by decide) (fun hq => absurd rfl hq) (fun _ => ?_)
    refine wl_aload_n (pc' := 780) dL_law_779 rfl rfl rfl ?_
    refine wl_iconst (pc' := 781) dL_law_780 rfl ?_
    refine wl_laload (pc' := 782) (n := 1) (f := f1) dL_law_781 rfl (LW_out _ _ _ rfl) (by decide) (by decide) (by decide) ?_
    refine wl_iload (pc' := 784) dL_law_782 rfl rfl ?_
    refine wl_i2lG (pc' := 785) dL_law_784 rfl ?_
    refine wl_lcmpE (pc' := 786) dL_law_785 rfl hf ?_
    refine wl_if_eq (tgt := 791) (pc' := 789) dL_law_786 (by decide) rfl (by decide) (fun _ => ?_) (fun hq => absurd rfl hq)
    refine wl_goto (pc' := 1922) dL_law_791 (by decide) ?_
    refine wl_sub (ls' := lL i) [2, 3, 4, 5, 6] rfl ?_
    exact k _ x1 f1 _ _ hR1 (by omega) (by omega)
  · obtain ⟨hth, n9, rfl⟩ := agr_x hE hag
    refine wl_istore (pc' := 763) (ls' := (6, zI n9) :: (5, zI (cd1 E)) :: lL i) dL_law_761 rfl (by decide) rfl ?_
    refine wl_aload_n (pc' := 764) dL_law_763 rfl rfl rfl ?_
    refine wl_th (pc' := 767) lm_L_103 dL_law_764 rfl (Nat.le_of_ble_eq_true rfl) (Nat.le_of_ble_eq_true rfl) rfl (by omega) (by omega) ?_
    refine wl_iload (pc' := 769) dL_law_767 rfl rfl ?_
    refine wl_icmpE (tgt := 774) dL_law_769 (by decide) hth ?_
    refine wl_iload (pc' := 776) dL_law_774 rfl rfl ?_
    refine wl_if_ne (tgt := 791) (pc' := 779) dL_law_776 (by decide) rfl (cdz1 E).1 (fun _ => ?_) (fun hq => absurd hq (cdz1 E).2)
    refine wl_goto (pc' := 1922) dL_law_791 (by decide) ?_
    refine wl_sub (ls' := lL i) [2, 3, 4, 5, 6] rfl ?_
    exact k _ x1 f1 _ _ hR1 (by omega) (by omega)
theorem R_bassOf (c0 : zCS) (x : zMX) (h : RelM c0 x.1 x.2.1 x.2.2.1) (i : Int) (hi : zin i) : zMetW q_X10_bassOf 3 0 0 [zR 0, zI i] (wMR c0 x) (Gl cd1 (cs_bassOf i c0)) := by
  exact r_bassOf c0.1 c0.2.1 c0.2.2.1 c0.2.2.2.1 c0.2.2.2.2.1 c0.2.2.2.2.2.1 c0.2.2.2.2.2.2.1 c0.2.2.2.2.2.2.2.1 c0.2.2.2.2.2.2.2.2.1 c0.2.2.2.2.2.2.2.2.2.1 c0.2.2.2.2.2.2.2.2.2.2.1 c0.2.2.2.2.2.2.2.2.2.2.2 x.1 x.2.1 x.2.2.1 x.2.2.2.1 x.2.2.2.2.1 x.2.2.2.2.2.1 x.2.2.2.2.2.2.1 x.2.2.2.2.2.2.2.1 x.2.2.2.2.2.2.2.2.1 x.2.2.2.2.2.2.2.2.2.1 x.2.2.2.2.2.2.2.2.2.2.1 x.2.2.2.2.2.2.2.2.2.2.2.1 x.2.2.2.2.2.2.2.2.2.2.2.2.1 x.2.2.2.2.2.2.2.2.2.2.2.2.2.1 x.2.2.2.2.2.2.2.2.2.2.2.2.2.2.1 x.2.2.2.2.2.2.2.2.2.2.2.2.2.2.2.1 x.2.2.2.2.2.2.2.2.2.2.2.2.2.2.2.2 h i hi
set_option maxRecDepth 10000 in
theorem t_bassOf {N : Nat} {xs : Nat → Int32} {mc ms nc ns : Nat} {i : Int} {c0 : zCS} {x : zMX} {f : Int → Int} (hN : N < 100000) (hi : 0 ≤ i ∧ i + 4 < N) (h : RelM c0 x.1 x.2.1 x.2.2.1) (hmc : nc + 3 ≤ mc) (hms : ns + 18 ≤ ms) (k : ∀ (c1 : zCS) (x1 : zMX) (f1 : Int → Int) (nc1 ns1 : Nat), RelM c1 x1.1 x1.2.1 x1.2.2.1 → nc1 ≤ nc + 3 → ns1 ≤ ns + 18 → WL N xs q_L_law 15 mc ms 0 PL 1922 (lL i) [] (LW c1 (wMR c1 x1) f1) nc1 ns1) : WL N xs q_L_law 15 mc ms 0 PL 794 (lL i) [] (LW c0 (wMR c0 x) f) nc ns := by
  have hok := rel_ok h
  refine wl_aload_n (pc' := 795) dL_law_794 rfl rfl rfl ?_
  refine wl_aload_n (pc' := 796) dL_law_795 rfl rfl rfl ?_
  refine wl_iload (pc' := 798) dL_law_796 rfl rfl ?_
  refine wl_iconst (pc' := 799) dL_law_798 rfl ?_
  refine wl_iadd (pc' := 800) dL_law_799 rfl ?_
  refine wl_sload (pc' := 801) dL_law_800 rfl (by omega) (by omega) (by omega) ?_
  refine wl_aload_n (pc' := 802) dL_law_801 rfl rfl rfl ?_
  refine wl_h (pc' := 805) (k_L_bassOf c0 hok f ((xs (i + 1).toNat).toInt) (zin_x _)) rfl ok_L_bassOf rfl lm_L_153 dL_law_802 rfl rfl rfl (Nat.le_of_ble_eq_true rfl) (Nat.le_of_ble_eq_true rfl) (by omega) (by omega) (fun cv f1 hcv => ?_)
  refine wl_istore (pc' := 807) (ls' := (5, zI cv) :: lL i) dL_law_805 rfl (by decide) rfl ?_
  refine wl_aload_n (pc' := 808) dL_law_807 rfl rfl rfl ?_
  refine wl_aload_n (pc' := 809) dL_law_808 rfl rfl rfl ?_
  refine wl_iload (pc' := 811) dL_law_809 rfl rfl ?_
  refine wl_iconst (pc' := 812) dL_law_811 rfl ?_
  refine wl_iadd (pc' := 813) dL_law_812 rfl ?_
  refine wl_sload (pc' := 814) dL_law_813 rfl (by omega) (by omega) (by omega) ?_
  refine wl_m (pc' := 817) (R_bassOf c0 x h ((xs (i + 1).toNat).toInt) (zin_x _)) (sh_bassOf ((xs (i + 1).toNat).toInt) c0).v ok_X10_bassOf lm_L_155 dL_law_814 rfl rfl rfl rfl rfl (Nat.le_of_ble_eq_true rfl) (Nat.le_of_ble_eq_true rfl) rfl (by omega) (by omega) (fun x1 b hR1 hag => ?_)
  rcases hcv with ⟨a, ha, rfl, hf⟩ | ⟨E, hE, rfl⟩
  · obtain ⟨rfl, hth⟩ := agr_v ha hag
    refine wl_istore (pc' := 819) (ls' := (6, zI a) :: (5, zI (0)) :: lL i) dL_law_817 rfl (by decide) rfl ?_
    refine wl_aload_n (pc' := 820) dL_law_819 rfl rfl rfl ?_
    refine wl_th (pc' := 823) lm_L_103 dL_law_820 rfl (Nat.le_of_ble_eq_true rfl) (Nat.le_of_ble_eq_true rfl) rfl (by omega) (by omega) ?_
    refine wl_iload (pc' := 825) dL_law_823 rfl rfl ?_
    refine wl_icmpE (tgt := 830) dL_law_825 (by decide) hth ?_
    refine wl_iload (pc' := 832) dL_law_830 rfl rfl ?_
    refine wl_if_ne (tgt := 847) (pc' := 835) dL_law_832 (by decide) rfl (by decide) (fun hq => absurd rfl hq) (fun _ => ?_)
    refine wl_aload_n (pc' := 836) dL_law_835 rfl rfl rfl ?_
    refine wl_iconst (pc' := 837) dL_law_836 rfl ?_
    refine wl_laload (pc' := 838) (n := 1) (f := f1) dL_law_837 rfl (LW_out _ _ _ rfl) (by decide) (by decide) (by decide) ?_
    refine wl_iload (pc' := 840) dL_law_838 rfl rfl ?_
    refine wl_i2lG (pc' := 841) dL_law_840 rfl ?_
    refine wl_lcmpE (pc' := 842) dL_law_841 rfl hf ?_
    refine wl_if_eq (tgt := 847) (pc' := 845) dL_law_842 (by decide) rfl (by decide) (fun _ => ?_) (fun hq => absurd rfl hq)
    refine wl_goto (pc' := 1922) dL_law_847 (by decide) ?_
    refine wl_sub (ls' := lL i) [2, 3, 4, 5, 6] rfl ?_
    exact k _ x1 f1 _ _ hR1 (by omega) (by omega)
  · obtain ⟨hth, n9, rfl⟩ := agr_x hE hag
    refine wl_istore (pc' := 819) (ls' := (6, zI n9) :: (5, zI (cd1 E)) :: lL i) dL_law_817 rfl (by decide) rfl ?_
    refine wl_aload_n (pc' := 820) dL_law_819 rfl rfl rfl ?_
    refine wl_th (pc' := 823) lm_L_103 dL_law_820 rfl (Nat.le_of_ble_eq_true rfl) (Nat.le_of_ble_eq_true rfl) rfl (by omega) (by omega) ?_
    refine wl_iload (pc' := 825) dL_law_823 rfl rfl ?_
    refine wl_icmpE (tgt := 830) dL_law_825 (by decide) hth ?_
    refine wl_iload (pc' := 832) dL_law_830 rfl rfl ?_
    refine wl_if_ne (tgt := 847) (pc' := 835) dL_law_832 (by decide) rfl (cdz1 E).1 (fun _ => ?_) (fun hq => absurd hq (cdz1 E).2)
    refine wl_goto (pc' := 1922) dL_law_847 (by decide) ?_
    refine wl_sub (ls' := lL i) [2, 3, 4, 5, 6] rfl ?_
    exact k _ x1 f1 _ _ hR1 (by omega) (by omega)
theorem R_nameChar (c0 : zCS) (x : zMX) (h : RelM c0 x.1 x.2.1 x.2.2.1) (i : Int) (hi : zin i) (c : Int) (hc : zin c) : zMetW q_X10_nameChar 3 0 0 [zR 0, zI i, zI c] (wMR c0 x) (Gl cd1 (cs_nameChar i c c0)) := by
  exact r_nameChar c0.1 c0.2.1 c0.2.2.1 c0.2.2.2.1 c0.2.2.2.2.1 c0.2.2.2.2.2.1 c0.2.2.2.2.2.2.1 c0.2.2.2.2.2.2.2.1 c0.2.2.2.2.2.2.2.2.1 c0.2.2.2.2.2.2.2.2.2.1 c0.2.2.2.2.2.2.2.2.2.2.1 c0.2.2.2.2.2.2.2.2.2.2.2 x.1 x.2.1 x.2.2.1 x.2.2.2.1 x.2.2.2.2.1 x.2.2.2.2.2.1 x.2.2.2.2.2.2.1 x.2.2.2.2.2.2.2.1 x.2.2.2.2.2.2.2.2.1 x.2.2.2.2.2.2.2.2.2.1 x.2.2.2.2.2.2.2.2.2.2.1 x.2.2.2.2.2.2.2.2.2.2.2.1 x.2.2.2.2.2.2.2.2.2.2.2.2.1 x.2.2.2.2.2.2.2.2.2.2.2.2.2.1 x.2.2.2.2.2.2.2.2.2.2.2.2.2.2.1 x.2.2.2.2.2.2.2.2.2.2.2.2.2.2.2.1 x.2.2.2.2.2.2.2.2.2.2.2.2.2.2.2.2 h i hi c hc
set_option maxRecDepth 10000 in
theorem t_nameChar {N : Nat} {xs : Nat → Int32} {mc ms nc ns : Nat} {i : Int} {c0 : zCS} {x : zMX} {f : Int → Int} (hN : N < 100000) (hi : 0 ≤ i ∧ i + 4 < N) (h : RelM c0 x.1 x.2.1 x.2.2.1) (hmc : nc + 3 ≤ mc) (hms : ns + 18 ≤ ms) (k : ∀ (c1 : zCS) (x1 : zMX) (f1 : Int → Int) (nc1 ns1 : Nat), RelM c1 x1.1 x1.2.1 x1.2.2.1 → nc1 ≤ nc + 3 → ns1 ≤ ns + 18 → WL N xs q_L_law 15 mc ms 0 PL 1922 (lL i) [] (LW c1 (wMR c1 x1) f1) nc1 ns1) : WL N xs q_L_law 15 mc ms 0 PL 850 (lL i) [] (LW c0 (wMR c0 x) f) nc ns := by
  have hok := rel_ok h
  refine wl_aload_n (pc' := 851) dL_law_850 rfl rfl rfl ?_
  refine wl_aload_n (pc' := 852) dL_law_851 rfl rfl rfl ?_
  refine wl_iload (pc' := 854) dL_law_852 rfl rfl ?_
  refine wl_iconst (pc' := 855) dL_law_854 rfl ?_
  refine wl_iadd (pc' := 856) dL_law_855 rfl ?_
  refine wl_sload (pc' := 857) dL_law_856 rfl (by omega) (by omega) (by omega) ?_
  refine wl_aload_n (pc' := 858) dL_law_857 rfl rfl rfl ?_
  refine wl_iload (pc' := 860) dL_law_858 rfl rfl ?_
  refine wl_iconst (pc' := 861) dL_law_860 rfl ?_
  refine wl_iadd (pc' := 862) dL_law_861 rfl ?_
  refine wl_sload (pc' := 863) dL_law_862 rfl (by omega) (by omega) (by omega) ?_
  refine wl_aload_n (pc' := 864) dL_law_863 rfl rfl rfl ?_
  refine wl_h (pc' := 867) (k_L_nameChar c0 hok f ((xs (i + 1).toNat).toInt) (zin_x _) ((xs (i + 2).toNat).toInt) (zin_x _)) rfl ok_L_nameChar rfl lm_L_156 dL_law_864 rfl rfl rfl (Nat.le_of_ble_eq_true rfl) (Nat.le_of_ble_eq_true rfl) (by omega) (by omega) (fun cv f1 hcv => ?_)
  refine wl_istore (pc' := 869) (ls' := (5, zI cv) :: lL i) dL_law_867 rfl (by decide) rfl ?_
  refine wl_aload_n (pc' := 870) dL_law_869 rfl rfl rfl ?_
  refine wl_aload_n (pc' := 871) dL_law_870 rfl rfl rfl ?_
  refine wl_iload (pc' := 873) dL_law_871 rfl rfl ?_
  refine wl_iconst (pc' := 874) dL_law_873 rfl ?_
  refine wl_iadd (pc' := 875) dL_law_874 rfl ?_
  refine wl_sload (pc' := 876) dL_law_875 rfl (by omega) (by omega) (by omega) ?_
  refine wl_aload_n (pc' := 877) dL_law_876 rfl rfl rfl ?_
  refine wl_iload (pc' := 879) dL_law_877 rfl rfl ?_
  refine wl_iconst (pc' := 880) dL_law_879 rfl ?_
  refine wl_iadd (pc' := 881) dL_law_880 rfl ?_
  refine wl_sload (pc' := 882) dL_law_881 rfl (by omega) (by omega) (by omega) ?_
  refine wl_m (pc' := 885) (R_nameChar c0 x h ((xs (i + 1).toNat).toInt) (zin_x _) ((xs (i + 2).toNat).toInt) (zin_x _)) (sh_nameChar ((xs (i + 1).toNat).toInt) ((xs (i + 2).toNat).toInt) c0).v ok_X10_nameChar lm_L_158 dL_law_882 rfl rfl rfl rfl rfl (Nat.le_of_ble_eq_true rfl) (Nat.le_of_ble_eq_true rfl) rfl (by omega) (by omega) (fun x1 b hR1 hag => ?_)
  rcases hcv with ⟨a, ha, rfl, hf⟩ | ⟨E, hE, rfl⟩
  · obtain ⟨rfl, hth⟩ := agr_v ha hag
    refine wl_istore (pc' := 887) (ls' := (6, zI a) :: (5, zI (0)) :: lL i) dL_law_885 rfl (by decide) rfl ?_
    refine wl_aload_n (pc' := 888) dL_law_887 rfl rfl rfl ?_
    refine wl_th (pc' := 891) lm_L_103 dL_law_888 rfl (Nat.le_of_ble_eq_true rfl) (Nat.le_of_ble_eq_true rfl) rfl (by omega) (by omega) ?_
    refine wl_iload (pc' := 893) dL_law_891 rfl rfl ?_
    refine wl_icmpE (tgt := 898) dL_law_893 (by decide) hth ?_
    refine wl_iload (pc' := 900) dL_law_898 rfl rfl ?_
    refine wl_if_ne (tgt := 915) (pc' := 903) dL_law_900 (by decide) rfl (by decide) (fun hq => absurd rfl hq) (fun _ => ?_)
    refine wl_aload_n (pc' := 904) dL_law_903 rfl rfl rfl ?_
    refine wl_iconst (pc' := 905) dL_law_904 rfl ?_
    refine wl_laload (pc' := 906) (n := 1) (f := f1) dL_law_905 rfl (LW_out _ _ _ rfl) (by decide) (by decide) (by decide) ?_
    refine wl_iload (pc' := 908) dL_law_906 rfl rfl ?_
    refine wl_i2lG (pc' := 909) dL_law_908 rfl ?_
    refine wl_lcmpE (pc' := 910) dL_law_909 rfl hf ?_
    refine wl_if_eq (tgt := 915) (pc' := 913) dL_law_910 (by decide) rfl (by decide) (fun _ => ?_) (fun hq => absurd rfl hq)
    refine wl_goto (pc' := 1922) dL_law_915 (by decide) ?_
    refine wl_sub (ls' := lL i) [2, 3, 4, 5, 6] rfl ?_
    exact k _ x1 f1 _ _ hR1 (by omega) (by omega)
  · obtain ⟨hth, n9, rfl⟩ := agr_x hE hag
    refine wl_istore (pc' := 887) (ls' := (6, zI n9) :: (5, zI (cd1 E)) :: lL i) dL_law_885 rfl (by decide) rfl ?_
    refine wl_aload_n (pc' := 888) dL_law_887 rfl rfl rfl ?_
    refine wl_th (pc' := 891) lm_L_103 dL_law_888 rfl (Nat.le_of_ble_eq_true rfl) (Nat.le_of_ble_eq_true rfl) rfl (by omega) (by omega) ?_
    refine wl_iload (pc' := 893) dL_law_891 rfl rfl ?_
    refine wl_icmpE (tgt := 898) dL_law_893 (by decide) hth ?_
    refine wl_iload (pc' := 900) dL_law_898 rfl rfl ?_
    refine wl_if_ne (tgt := 915) (pc' := 903) dL_law_900 (by decide) rfl (cdz1 E).1 (fun _ => ?_) (fun hq => absurd hq (cdz1 E).2)
    refine wl_goto (pc' := 1922) dL_law_915 (by decide) ?_
    refine wl_sub (ls' := lL i) [2, 3, 4, 5, 6] rfl ?_
    exact k _ x1 f1 _ _ hR1 (by omega) (by omega)
theorem R_setChord (c0 : zCS) (x : zMX) (h : RelM c0 x.1 x.2.1 x.2.2.1) (i : Int) (hi : zin i) : zMetW q_X10_setChord 4 0 0 [zR 0, zI i] (wMR c0 x) (Gl cd1 (cs_setChord i c0)) := by
  exact r_setChord c0.1 c0.2.1 c0.2.2.1 c0.2.2.2.1 c0.2.2.2.2.1 c0.2.2.2.2.2.1 c0.2.2.2.2.2.2.1 c0.2.2.2.2.2.2.2.1 c0.2.2.2.2.2.2.2.2.1 c0.2.2.2.2.2.2.2.2.2.1 c0.2.2.2.2.2.2.2.2.2.2.1 c0.2.2.2.2.2.2.2.2.2.2.2 x.1 x.2.1 x.2.2.1 x.2.2.2.1 x.2.2.2.2.1 x.2.2.2.2.2.1 x.2.2.2.2.2.2.1 x.2.2.2.2.2.2.2.1 x.2.2.2.2.2.2.2.2.1 x.2.2.2.2.2.2.2.2.2.1 x.2.2.2.2.2.2.2.2.2.2.1 x.2.2.2.2.2.2.2.2.2.2.2.1 x.2.2.2.2.2.2.2.2.2.2.2.2.1 x.2.2.2.2.2.2.2.2.2.2.2.2.2.1 x.2.2.2.2.2.2.2.2.2.2.2.2.2.2.1 x.2.2.2.2.2.2.2.2.2.2.2.2.2.2.2.1 x.2.2.2.2.2.2.2.2.2.2.2.2.2.2.2.2 h i hi
set_option maxRecDepth 10000 in
theorem t_setChord {N : Nat} {xs : Nat → Int32} {mc ms nc ns : Nat} {i : Int} {c0 : zCS} {x : zMX} {f : Int → Int} (hN : N < 100000) (hi : 0 ≤ i ∧ i + 4 < N) (h : RelM c0 x.1 x.2.1 x.2.2.1) (hmc : nc + 3 ≤ mc) (hms : ns + 18 ≤ ms) (k : ∀ (c1 : zCS) (x1 : zMX) (f1 : Int → Int) (nc1 ns1 : Nat), RelM c1 x1.1 x1.2.1 x1.2.2.1 → nc1 ≤ nc + 3 → ns1 ≤ ns + 18 → WL N xs q_L_law 15 mc ms 0 PL 1922 (lL i) [] (LW c1 (wMR c1 x1) f1) nc1 ns1) : WL N xs q_L_law 15 mc ms 0 PL 918 (lL i) [] (LW c0 (wMR c0 x) f) nc ns := by
  have hok := rel_ok h
  refine wl_aload_n (pc' := 919) dL_law_918 rfl rfl rfl ?_
  refine wl_aload_n (pc' := 920) dL_law_919 rfl rfl rfl ?_
  refine wl_iload (pc' := 922) dL_law_920 rfl rfl ?_
  refine wl_iconst (pc' := 923) dL_law_922 rfl ?_
  refine wl_iadd (pc' := 924) dL_law_923 rfl ?_
  refine wl_sload (pc' := 925) dL_law_924 rfl (by omega) (by omega) (by omega) ?_
  refine wl_aload_n (pc' := 926) dL_law_925 rfl rfl rfl ?_
  refine wl_h (pc' := 929) (k_L_setChord c0 hok f ((xs (i + 1).toNat).toInt) (zin_x _)) rfl ok_L_setChord rfl lm_L_159 dL_law_926 rfl rfl rfl (Nat.le_of_ble_eq_true rfl) (Nat.le_of_ble_eq_true rfl) (by omega) (by omega) (fun cv f1 hcv => ?_)
  refine wl_istore (pc' := 931) (ls' := (5, zI cv) :: lL i) dL_law_929 rfl (by decide) rfl ?_
  refine wl_aload_n (pc' := 932) dL_law_931 rfl rfl rfl ?_
  refine wl_aload_n (pc' := 933) dL_law_932 rfl rfl rfl ?_
  refine wl_iload (pc' := 935) dL_law_933 rfl rfl ?_
  refine wl_iconst (pc' := 936) dL_law_935 rfl ?_
  refine wl_iadd (pc' := 937) dL_law_936 rfl ?_
  refine wl_sload (pc' := 938) dL_law_937 rfl (by omega) (by omega) (by omega) ?_
  refine wl_m (pc' := 941) (R_setChord c0 x h ((xs (i + 1).toNat).toInt) (zin_x _)) (sh_setChord ((xs (i + 1).toNat).toInt) c0).v ok_X10_setChord lm_L_161 dL_law_938 rfl rfl rfl rfl rfl (Nat.le_of_ble_eq_true rfl) (Nat.le_of_ble_eq_true rfl) rfl (by omega) (by omega) (fun x1 b hR1 hag => ?_)
  rcases hcv with ⟨a, ha, rfl, hf⟩ | ⟨E, hE, rfl⟩
  · obtain ⟨rfl, hth⟩ := agr_v ha hag
    refine wl_istore (pc' := 943) (ls' := (6, zI a) :: (5, zI (0)) :: lL i) dL_law_941 rfl (by decide) rfl ?_
    refine wl_aload_n (pc' := 944) dL_law_943 rfl rfl rfl ?_
    refine wl_th (pc' := 947) lm_L_103 dL_law_944 rfl (Nat.le_of_ble_eq_true rfl) (Nat.le_of_ble_eq_true rfl) rfl (by omega) (by omega) ?_
    refine wl_iload (pc' := 949) dL_law_947 rfl rfl ?_
    refine wl_icmpE (tgt := 954) dL_law_949 (by decide) hth ?_
    refine wl_iload (pc' := 956) dL_law_954 rfl rfl ?_
    refine wl_if_ne (tgt := 971) (pc' := 959) dL_law_956 (by decide) rfl (by decide) (fun hq => absurd rfl hq) (fun _ => ?_)
    refine wl_aload_n (pc' := 960) dL_law_959 rfl rfl rfl ?_
    refine wl_iconst (pc' := 961) dL_law_960 rfl ?_
    refine wl_laload (pc' := 962) (n := 1) (f := f1) dL_law_961 rfl (LW_out _ _ _ rfl) (by decide) (by decide) (by decide) ?_
    refine wl_iload (pc' := 964) dL_law_962 rfl rfl ?_
    refine wl_i2lG (pc' := 965) dL_law_964 rfl ?_
    refine wl_lcmpE (pc' := 966) dL_law_965 rfl hf ?_
    refine wl_if_eq (tgt := 971) (pc' := 969) dL_law_966 (by decide) rfl (by decide) (fun _ => ?_) (fun hq => absurd rfl hq)
    refine wl_goto (pc' := 1922) dL_law_971 (by decide) ?_
    refine wl_sub (ls' := lL i) [2, 3, 4, 5, 6] rfl ?_
    exact k _ x1 f1 _ _ hR1 (by omega) (by omega)
  · obtain ⟨hth, n9, rfl⟩ := agr_x hE hag
    refine wl_istore (pc' := 943) (ls' := (6, zI n9) :: (5, zI (cd1 E)) :: lL i) dL_law_941 rfl (by decide) rfl ?_
    refine wl_aload_n (pc' := 944) dL_law_943 rfl rfl rfl ?_
    refine wl_th (pc' := 947) lm_L_103 dL_law_944 rfl (Nat.le_of_ble_eq_true rfl) (Nat.le_of_ble_eq_true rfl) rfl (by omega) (by omega) ?_
    refine wl_iload (pc' := 949) dL_law_947 rfl rfl ?_
    refine wl_icmpE (tgt := 954) dL_law_949 (by decide) hth ?_
    refine wl_iload (pc' := 956) dL_law_954 rfl rfl ?_
    refine wl_if_ne (tgt := 971) (pc' := 959) dL_law_956 (by decide) rfl (cdz1 E).1 (fun _ => ?_) (fun hq => absurd hq (cdz1 E).2)
    refine wl_goto (pc' := 1922) dL_law_971 (by decide) ?_
    refine wl_sub (ls' := lL i) [2, 3, 4, 5, 6] rfl ?_
    exact k _ x1 f1 _ _ hR1 (by omega) (by omega)
theorem R_addChord (c0 : zCS) (x : zMX) (h : RelM c0 x.1 x.2.1 x.2.2.1) (l : Int) (hl : zin l) (c : Int) (hc : zin c) : zMetW q_X10_addChord 4 0 0 [zR 0, zI l, zI c] (wMR c0 x) (Gl (cd2 eIO) (cs_addChord l c c0)) := by
  exact r_addChord c0.1 c0.2.1 c0.2.2.1 c0.2.2.2.1 c0.2.2.2.2.1 c0.2.2.2.2.2.1 c0.2.2.2.2.2.2.1 c0.2.2.2.2.2.2.2.1 c0.2.2.2.2.2.2.2.2.1 c0.2.2.2.2.2.2.2.2.2.1 c0.2.2.2.2.2.2.2.2.2.2.1 c0.2.2.2.2.2.2.2.2.2.2.2 x.1 x.2.1 x.2.2.1 x.2.2.2.1 x.2.2.2.2.1 x.2.2.2.2.2.1 x.2.2.2.2.2.2.1 x.2.2.2.2.2.2.2.1 x.2.2.2.2.2.2.2.2.1 x.2.2.2.2.2.2.2.2.2.1 x.2.2.2.2.2.2.2.2.2.2.1 x.2.2.2.2.2.2.2.2.2.2.2.1 x.2.2.2.2.2.2.2.2.2.2.2.2.1 x.2.2.2.2.2.2.2.2.2.2.2.2.2.1 x.2.2.2.2.2.2.2.2.2.2.2.2.2.2.1 x.2.2.2.2.2.2.2.2.2.2.2.2.2.2.2.1 x.2.2.2.2.2.2.2.2.2.2.2.2.2.2.2.2 h l hl c hc
set_option maxRecDepth 10000 in
theorem t_addChord {N : Nat} {xs : Nat → Int32} {mc ms nc ns : Nat} {i : Int} {c0 : zCS} {x : zMX} {f : Int → Int} (hN : N < 100000) (hi : 0 ≤ i ∧ i + 4 < N) (h : RelM c0 x.1 x.2.1 x.2.2.1) (hmc : nc + 3 ≤ mc) (hms : ns + 18 ≤ ms) (k : ∀ (c1 : zCS) (x1 : zMX) (f1 : Int → Int) (nc1 ns1 : Nat), RelM c1 x1.1 x1.2.1 x1.2.2.1 → nc1 ≤ nc + 3 → ns1 ≤ ns + 18 → WL N xs q_L_law 15 mc ms 0 PL 1922 (lL i) [] (LW c1 (wMR c1 x1) f1) nc1 ns1) : WL N xs q_L_law 15 mc ms 0 PL 974 (lL i) [] (LW c0 (wMR c0 x) f) nc ns := by
  have hok := rel_ok h
  refine wl_aload_n (pc' := 975) dL_law_974 rfl rfl rfl ?_
  refine wl_aload_n (pc' := 976) dL_law_975 rfl rfl rfl ?_
  refine wl_iload (pc' := 978) dL_law_976 rfl rfl ?_
  refine wl_iconst (pc' := 979) dL_law_978 rfl ?_
  refine wl_iadd (pc' := 980) dL_law_979 rfl ?_
  refine wl_sload (pc' := 981) dL_law_980 rfl (by omega) (by omega) (by omega) ?_
  refine wl_aload_n (pc' := 982) dL_law_981 rfl rfl rfl ?_
  refine wl_iload (pc' := 984) dL_law_982 rfl rfl ?_
  refine wl_iconst (pc' := 985) dL_law_984 rfl ?_
  refine wl_iadd (pc' := 986) dL_law_985 rfl ?_
  refine wl_sload (pc' := 987) dL_law_986 rfl (by omega) (by omega) (by omega) ?_
  refine wl_aload_n (pc' := 988) dL_law_987 rfl rfl rfl ?_
  refine wl_h (pc' := 991) (k_L_addChord c0 hok f ((xs (i + 1).toNat).toInt) (zin_x _) ((xs (i + 2).toNat).toInt) (zin_x _)) rfl ok_L_addChord rfl lm_L_162 dL_law_988 rfl rfl rfl (Nat.le_of_ble_eq_true rfl) (Nat.le_of_ble_eq_true rfl) (by omega) (by omega) (fun cv f1 hcv => ?_)
  refine wl_istore (pc' := 993) (ls' := (5, zI cv) :: lL i) dL_law_991 rfl (by decide) rfl ?_
  refine wl_aload_n (pc' := 994) dL_law_993 rfl rfl rfl ?_
  refine wl_aload_n (pc' := 995) dL_law_994 rfl rfl rfl ?_
  refine wl_iload (pc' := 997) dL_law_995 rfl rfl ?_
  refine wl_iconst (pc' := 998) dL_law_997 rfl ?_
  refine wl_iadd (pc' := 999) dL_law_998 rfl ?_
  refine wl_sload (pc' := 1000) dL_law_999 rfl (by omega) (by omega) (by omega) ?_
  refine wl_aload_n (pc' := 1001) dL_law_1000 rfl rfl rfl ?_
  refine wl_iload (pc' := 1003) dL_law_1001 rfl rfl ?_
  refine wl_iconst (pc' := 1004) dL_law_1003 rfl ?_
  refine wl_iadd (pc' := 1005) dL_law_1004 rfl ?_
  refine wl_sload (pc' := 1006) dL_law_1005 rfl (by omega) (by omega) (by omega) ?_
  refine wl_m (pc' := 1009) (R_addChord c0 x h ((xs (i + 1).toNat).toInt) (zin_x _) ((xs (i + 2).toNat).toInt) (zin_x _)) (sh_addChord ((xs (i + 1).toNat).toInt) ((xs (i + 2).toNat).toInt) c0).v ok_X10_addChord lm_L_164 dL_law_1006 rfl rfl rfl rfl rfl (Nat.le_of_ble_eq_true rfl) (Nat.le_of_ble_eq_true rfl) rfl (by omega) (by omega) (fun x1 b hR1 hag => ?_)
  rcases hcv with ⟨a, ha, rfl, hf⟩ | ⟨E, hE, rfl⟩
  · obtain ⟨rfl, hth⟩ := agr_v ha hag
    refine wl_istore (pc' := 1011) (ls' := (6, zI a) :: (5, zI (0)) :: lL i) dL_law_1009 rfl (by decide) rfl ?_
    refine wl_aload_n (pc' := 1012) dL_law_1011 rfl rfl rfl ?_
    refine wl_th (pc' := 1015) lm_L_103 dL_law_1012 rfl (Nat.le_of_ble_eq_true rfl) (Nat.le_of_ble_eq_true rfl) rfl (by omega) (by omega) ?_
    refine wl_iload (pc' := 1017) dL_law_1015 rfl rfl ?_
    refine wl_icmpE (tgt := 1022) dL_law_1017 (by decide) hth ?_
    refine wl_iload (pc' := 1024) dL_law_1022 rfl rfl ?_
    refine wl_if_ne (tgt := 1039) (pc' := 1027) dL_law_1024 (by decide) rfl (by decide) (fun hq => absurd rfl hq) (fun _ => ?_)
    refine wl_aload_n (pc' := 1028) dL_law_1027 rfl rfl rfl ?_
    refine wl_iconst (pc' := 1029) dL_law_1028 rfl ?_
    refine wl_laload (pc' := 1030) (n := 1) (f := f1) dL_law_1029 rfl (LW_out _ _ _ rfl) (by decide) (by decide) (by decide) ?_
    refine wl_iload (pc' := 1032) dL_law_1030 rfl rfl ?_
    refine wl_i2lG (pc' := 1033) dL_law_1032 rfl ?_
    refine wl_lcmpE (pc' := 1034) dL_law_1033 rfl hf ?_
    refine wl_if_eq (tgt := 1039) (pc' := 1037) dL_law_1034 (by decide) rfl (by decide) (fun _ => ?_) (fun hq => absurd rfl hq)
    refine wl_goto (pc' := 1922) dL_law_1039 (by decide) ?_
    refine wl_sub (ls' := lL i) [2, 3, 4, 5, 6] rfl ?_
    exact k _ x1 f1 _ _ hR1 (by omega) (by omega)
  · obtain ⟨hth, n9, rfl⟩ := agr_x hE hag
    refine wl_istore (pc' := 1011) (ls' := (6, zI n9) :: (5, zI ((cd2 eIO) E)) :: lL i) dL_law_1009 rfl (by decide) rfl ?_
    refine wl_aload_n (pc' := 1012) dL_law_1011 rfl rfl rfl ?_
    refine wl_th (pc' := 1015) lm_L_103 dL_law_1012 rfl (Nat.le_of_ble_eq_true rfl) (Nat.le_of_ble_eq_true rfl) rfl (by omega) (by omega) ?_
    refine wl_iload (pc' := 1017) dL_law_1015 rfl rfl ?_
    refine wl_icmpE (tgt := 1022) dL_law_1017 (by decide) hth ?_
    refine wl_iload (pc' := 1024) dL_law_1022 rfl rfl ?_
    refine wl_if_ne (tgt := 1039) (pc' := 1027) dL_law_1024 (by decide) rfl (cdz2 _ E).1 (fun _ => ?_) (fun hq => absurd hq (cdz2 _ E).2)
    refine wl_goto (pc' := 1922) dL_law_1039 (by decide) ?_
    refine wl_sub (ls' := lL i) [2, 3, 4, 5, 6] rfl ?_
    exact k _ x1 f1 _ _ hR1 (by omega) (by omega)
theorem R_removeChord (c0 : zCS) (x : zMX) (h : RelM c0 x.1 x.2.1 x.2.2.1) (i : Int) (hi : zin i) : zMetW q_X10_removeChord 2 0 0 [zR 0, zI i] (wMR c0 x) (Gl cd1 (cs_removeChord i c0)) := by
  exact r_removeChord c0.1 c0.2.1 c0.2.2.1 c0.2.2.2.1 c0.2.2.2.2.1 c0.2.2.2.2.2.1 c0.2.2.2.2.2.2.1 c0.2.2.2.2.2.2.2.1 c0.2.2.2.2.2.2.2.2.1 c0.2.2.2.2.2.2.2.2.2.1 c0.2.2.2.2.2.2.2.2.2.2.1 c0.2.2.2.2.2.2.2.2.2.2.2 x.1 x.2.1 x.2.2.1 x.2.2.2.1 x.2.2.2.2.1 x.2.2.2.2.2.1 x.2.2.2.2.2.2.1 x.2.2.2.2.2.2.2.1 x.2.2.2.2.2.2.2.2.1 x.2.2.2.2.2.2.2.2.2.1 x.2.2.2.2.2.2.2.2.2.2.1 x.2.2.2.2.2.2.2.2.2.2.2.1 x.2.2.2.2.2.2.2.2.2.2.2.2.1 x.2.2.2.2.2.2.2.2.2.2.2.2.2.1 x.2.2.2.2.2.2.2.2.2.2.2.2.2.2.1 x.2.2.2.2.2.2.2.2.2.2.2.2.2.2.2.1 x.2.2.2.2.2.2.2.2.2.2.2.2.2.2.2.2 h i hi
set_option maxRecDepth 10000 in
theorem t_removeChord {N : Nat} {xs : Nat → Int32} {mc ms nc ns : Nat} {i : Int} {c0 : zCS} {x : zMX} {f : Int → Int} (hN : N < 100000) (hi : 0 ≤ i ∧ i + 4 < N) (h : RelM c0 x.1 x.2.1 x.2.2.1) (hmc : nc + 3 ≤ mc) (hms : ns + 18 ≤ ms) (k : ∀ (c1 : zCS) (x1 : zMX) (f1 : Int → Int) (nc1 ns1 : Nat), RelM c1 x1.1 x1.2.1 x1.2.2.1 → nc1 ≤ nc + 3 → ns1 ≤ ns + 18 → WL N xs q_L_law 15 mc ms 0 PL 1922 (lL i) [] (LW c1 (wMR c1 x1) f1) nc1 ns1) : WL N xs q_L_law 15 mc ms 0 PL 1042 (lL i) [] (LW c0 (wMR c0 x) f) nc ns := by
  have hok := rel_ok h
  refine wl_aload_n (pc' := 1043) dL_law_1042 rfl rfl rfl ?_
  refine wl_aload_n (pc' := 1044) dL_law_1043 rfl rfl rfl ?_
  refine wl_iload (pc' := 1046) dL_law_1044 rfl rfl ?_
  refine wl_iconst (pc' := 1047) dL_law_1046 rfl ?_
  refine wl_iadd (pc' := 1048) dL_law_1047 rfl ?_
  refine wl_sload (pc' := 1049) dL_law_1048 rfl (by omega) (by omega) (by omega) ?_
  refine wl_aload_n (pc' := 1050) dL_law_1049 rfl rfl rfl ?_
  refine wl_h (pc' := 1053) (k_L_removeChord c0 hok f ((xs (i + 1).toNat).toInt) (zin_x _)) rfl ok_L_removeChord rfl lm_L_165 dL_law_1050 rfl rfl rfl (Nat.le_of_ble_eq_true rfl) (Nat.le_of_ble_eq_true rfl) (by omega) (by omega) (fun cv f1 hcv => ?_)
  refine wl_istore (pc' := 1055) (ls' := (5, zI cv) :: lL i) dL_law_1053 rfl (by decide) rfl ?_
  refine wl_aload_n (pc' := 1056) dL_law_1055 rfl rfl rfl ?_
  refine wl_aload_n (pc' := 1057) dL_law_1056 rfl rfl rfl ?_
  refine wl_iload (pc' := 1059) dL_law_1057 rfl rfl ?_
  refine wl_iconst (pc' := 1060) dL_law_1059 rfl ?_
  refine wl_iadd (pc' := 1061) dL_law_1060 rfl ?_
  refine wl_sload (pc' := 1062) dL_law_1061 rfl (by omega) (by omega) (by omega) ?_
  refine wl_m (pc' := 1065) (R_removeChord c0 x h ((xs (i + 1).toNat).toInt) (zin_x _)) (sh_removeChord ((xs (i + 1).toNat).toInt) c0).v ok_X10_removeChord lm_L_167 dL_law_1062 rfl rfl rfl rfl rfl (Nat.le_of_ble_eq_true rfl) (Nat.le_of_ble_eq_true rfl) rfl (by omega) (by omega) (fun x1 b hR1 hag => ?_)
  rcases hcv with ⟨a, ha, rfl, hf⟩ | ⟨E, hE, rfl⟩
  · obtain ⟨rfl, hth⟩ := agr_v ha hag
    refine wl_istore (pc' := 1067) (ls' := (6, zI a) :: (5, zI (0)) :: lL i) dL_law_1065 rfl (by decide) rfl ?_
    refine wl_aload_n (pc' := 1068) dL_law_1067 rfl rfl rfl ?_
    refine wl_th (pc' := 1071) lm_L_103 dL_law_1068 rfl (Nat.le_of_ble_eq_true rfl) (Nat.le_of_ble_eq_true rfl) rfl (by omega) (by omega) ?_
    refine wl_iload (pc' := 1073) dL_law_1071 rfl rfl ?_
    refine wl_icmpE (tgt := 1078) dL_law_1073 (by decide) hth ?_
    refine wl_iload (pc' := 1080) dL_law_1078 rfl rfl ?_
    refine wl_if_ne (tgt := 1095) (pc' := 1083) dL_law_1080 (by decide) rfl (by decide) (fun hq => absurd rfl hq) (fun _ => ?_)
    refine wl_aload_n (pc' := 1084) dL_law_1083 rfl rfl rfl ?_
    refine wl_iconst (pc' := 1085) dL_law_1084 rfl ?_
    refine wl_laload (pc' := 1086) (n := 1) (f := f1) dL_law_1085 rfl (LW_out _ _ _ rfl) (by decide) (by decide) (by decide) ?_
    refine wl_iload (pc' := 1088) dL_law_1086 rfl rfl ?_
    refine wl_i2lG (pc' := 1089) dL_law_1088 rfl ?_
    refine wl_lcmpE (pc' := 1090) dL_law_1089 rfl hf ?_
    refine wl_if_eq (tgt := 1095) (pc' := 1093) dL_law_1090 (by decide) rfl (by decide) (fun _ => ?_) (fun hq => absurd rfl hq)
    refine wl_goto (pc' := 1922) dL_law_1095 (by decide) ?_
    refine wl_sub (ls' := lL i) [2, 3, 4, 5, 6] rfl ?_
    exact k _ x1 f1 _ _ hR1 (by omega) (by omega)
  · obtain ⟨hth, n9, rfl⟩ := agr_x hE hag
    refine wl_istore (pc' := 1067) (ls' := (6, zI n9) :: (5, zI (cd1 E)) :: lL i) dL_law_1065 rfl (by decide) rfl ?_
    refine wl_aload_n (pc' := 1068) dL_law_1067 rfl rfl rfl ?_
    refine wl_th (pc' := 1071) lm_L_103 dL_law_1068 rfl (Nat.le_of_ble_eq_true rfl) (Nat.le_of_ble_eq_true rfl) rfl (by omega) (by omega) ?_
    refine wl_iload (pc' := 1073) dL_law_1071 rfl rfl ?_
    refine wl_icmpE (tgt := 1078) dL_law_1073 (by decide) hth ?_
    refine wl_iload (pc' := 1080) dL_law_1078 rfl rfl ?_
    refine wl_if_ne (tgt := 1095) (pc' := 1083) dL_law_1080 (by decide) rfl (cdz1 E).1 (fun _ => ?_) (fun hq => absurd hq (cdz1 E).2)
    refine wl_goto (pc' := 1922) dL_law_1095 (by decide) ?_
    refine wl_sub (ls' := lL i) [2, 3, 4, 5, 6] rfl ?_
    exact k _ x1 f1 _ _ hR1 (by omega) (by omega)
theorem R_moveChord (c0 : zCS) (x : zMX) (h : RelM c0 x.1 x.2.1 x.2.2.1) (i : Int) (hi : zin i) (c : Int) (hc : zin c) : zMetW q_X10_moveChord 3 0 0 [zR 0, zI i, zI c] (wMR c0 x) (Gl cd1 (cs_moveChord i c c0)) := by
  exact r_moveChord c0.1 c0.2.1 c0.2.2.1 c0.2.2.2.1 c0.2.2.2.2.1 c0.2.2.2.2.2.1 c0.2.2.2.2.2.2.1 c0.2.2.2.2.2.2.2.1 c0.2.2.2.2.2.2.2.2.1 c0.2.2.2.2.2.2.2.2.2.1 c0.2.2.2.2.2.2.2.2.2.2.1 c0.2.2.2.2.2.2.2.2.2.2.2 x.1 x.2.1 x.2.2.1 x.2.2.2.1 x.2.2.2.2.1 x.2.2.2.2.2.1 x.2.2.2.2.2.2.1 x.2.2.2.2.2.2.2.1 x.2.2.2.2.2.2.2.2.1 x.2.2.2.2.2.2.2.2.2.1 x.2.2.2.2.2.2.2.2.2.2.1 x.2.2.2.2.2.2.2.2.2.2.2.1 x.2.2.2.2.2.2.2.2.2.2.2.2.1 x.2.2.2.2.2.2.2.2.2.2.2.2.2.1 x.2.2.2.2.2.2.2.2.2.2.2.2.2.2.1 x.2.2.2.2.2.2.2.2.2.2.2.2.2.2.2.1 x.2.2.2.2.2.2.2.2.2.2.2.2.2.2.2.2 h i hi c hc
set_option maxRecDepth 10000 in
theorem t_moveChord {N : Nat} {xs : Nat → Int32} {mc ms nc ns : Nat} {i : Int} {c0 : zCS} {x : zMX} {f : Int → Int} (hN : N < 100000) (hi : 0 ≤ i ∧ i + 4 < N) (h : RelM c0 x.1 x.2.1 x.2.2.1) (hmc : nc + 3 ≤ mc) (hms : ns + 18 ≤ ms) (k : ∀ (c1 : zCS) (x1 : zMX) (f1 : Int → Int) (nc1 ns1 : Nat), RelM c1 x1.1 x1.2.1 x1.2.2.1 → nc1 ≤ nc + 3 → ns1 ≤ ns + 18 → WL N xs q_L_law 15 mc ms 0 PL 1922 (lL i) [] (LW c1 (wMR c1 x1) f1) nc1 ns1) : WL N xs q_L_law 15 mc ms 0 PL 1098 (lL i) [] (LW c0 (wMR c0 x) f) nc ns := by
  have hok := rel_ok h
  refine wl_aload_n (pc' := 1099) dL_law_1098 rfl rfl rfl ?_
  refine wl_aload_n (pc' := 1100) dL_law_1099 rfl rfl rfl ?_
  refine wl_iload (pc' := 1102) dL_law_1100 rfl rfl ?_
  refine wl_iconst (pc' := 1103) dL_law_1102 rfl ?_
  refine wl_iadd (pc' := 1104) dL_law_1103 rfl ?_
  refine wl_sload (pc' := 1105) dL_law_1104 rfl (by omega) (by omega) (by omega) ?_
  refine wl_aload_n (pc' := 1106) dL_law_1105 rfl rfl rfl ?_
  refine wl_iload (pc' := 1108) dL_law_1106 rfl rfl ?_
  refine wl_iconst (pc' := 1109) dL_law_1108 rfl ?_
  refine wl_iadd (pc' := 1110) dL_law_1109 rfl ?_
  refine wl_sload (pc' := 1111) dL_law_1110 rfl (by omega) (by omega) (by omega) ?_
  refine wl_aload_n (pc' := 1112) dL_law_1111 rfl rfl rfl ?_
  refine wl_h (pc' := 1115) (k_L_moveChord c0 hok f ((xs (i + 1).toNat).toInt) (zin_x _) ((xs (i + 2).toNat).toInt) (zin_x _)) rfl ok_L_moveChord rfl lm_L_168 dL_law_1112 rfl rfl rfl (Nat.le_of_ble_eq_true rfl) (Nat.le_of_ble_eq_true rfl) (by omega) (by omega) (fun cv f1 hcv => ?_)
  refine wl_istore (pc' := 1117) (ls' := (5, zI cv) :: lL i) dL_law_1115 rfl (by decide) rfl ?_
  refine wl_aload_n (pc' := 1118) dL_law_1117 rfl rfl rfl ?_
  refine wl_aload_n (pc' := 1119) dL_law_1118 rfl rfl rfl ?_
  refine wl_iload (pc' := 1121) dL_law_1119 rfl rfl ?_
  refine wl_iconst (pc' := 1122) dL_law_1121 rfl ?_
  refine wl_iadd (pc' := 1123) dL_law_1122 rfl ?_
  refine wl_sload (pc' := 1124) dL_law_1123 rfl (by omega) (by omega) (by omega) ?_
  refine wl_aload_n (pc' := 1125) dL_law_1124 rfl rfl rfl ?_
  refine wl_iload (pc' := 1127) dL_law_1125 rfl rfl ?_
  refine wl_iconst (pc' := 1128) dL_law_1127 rfl ?_
  refine wl_iadd (pc' := 1129) dL_law_1128 rfl ?_
  refine wl_sload (pc' := 1130) dL_law_1129 rfl (by omega) (by omega) (by omega) ?_
  refine wl_m (pc' := 1133) (R_moveChord c0 x h ((xs (i + 1).toNat).toInt) (zin_x _) ((xs (i + 2).toNat).toInt) (zin_x _)) (sh_moveChord ((xs (i + 1).toNat).toInt) ((xs (i + 2).toNat).toInt) c0).v ok_X10_moveChord lm_L_170 dL_law_1130 rfl rfl rfl rfl rfl (Nat.le_of_ble_eq_true rfl) (Nat.le_of_ble_eq_true rfl) rfl (by omega) (by omega) (fun x1 b hR1 hag => ?_)
  rcases hcv with ⟨a, ha, rfl, hf⟩ | ⟨E, hE, rfl⟩
  · obtain ⟨rfl, hth⟩ := agr_v ha hag
    refine wl_istore (pc' := 1135) (ls' := (6, zI a) :: (5, zI (0)) :: lL i) dL_law_1133 rfl (by decide) rfl ?_
    refine wl_aload_n (pc' := 1136) dL_law_1135 rfl rfl rfl ?_
    refine wl_th (pc' := 1139) lm_L_103 dL_law_1136 rfl (Nat.le_of_ble_eq_true rfl) (Nat.le_of_ble_eq_true rfl) rfl (by omega) (by omega) ?_
    refine wl_iload (pc' := 1141) dL_law_1139 rfl rfl ?_
    refine wl_icmpE (tgt := 1146) dL_law_1141 (by decide) hth ?_
    refine wl_iload (pc' := 1148) dL_law_1146 rfl rfl ?_
    refine wl_if_ne (tgt := 1163) (pc' := 1151) dL_law_1148 (by decide) rfl (by decide) (fun hq => absurd rfl hq) (fun _ => ?_)
    refine wl_aload_n (pc' := 1152) dL_law_1151 rfl rfl rfl ?_
    refine wl_iconst (pc' := 1153) dL_law_1152 rfl ?_
    refine wl_laload (pc' := 1154) (n := 1) (f := f1) dL_law_1153 rfl (LW_out _ _ _ rfl) (by decide) (by decide) (by decide) ?_
    refine wl_iload (pc' := 1156) dL_law_1154 rfl rfl ?_
    refine wl_i2lG (pc' := 1157) dL_law_1156 rfl ?_
    refine wl_lcmpE (pc' := 1158) dL_law_1157 rfl hf ?_
    refine wl_if_eq (tgt := 1163) (pc' := 1161) dL_law_1158 (by decide) rfl (by decide) (fun _ => ?_) (fun hq => absurd rfl hq)
    refine wl_goto (pc' := 1922) dL_law_1163 (by decide) ?_
    refine wl_sub (ls' := lL i) [2, 3, 4, 5, 6] rfl ?_
    exact k _ x1 f1 _ _ hR1 (by omega) (by omega)
  · obtain ⟨hth, n9, rfl⟩ := agr_x hE hag
    refine wl_istore (pc' := 1135) (ls' := (6, zI n9) :: (5, zI (cd1 E)) :: lL i) dL_law_1133 rfl (by decide) rfl ?_
    refine wl_aload_n (pc' := 1136) dL_law_1135 rfl rfl rfl ?_
    refine wl_th (pc' := 1139) lm_L_103 dL_law_1136 rfl (Nat.le_of_ble_eq_true rfl) (Nat.le_of_ble_eq_true rfl) rfl (by omega) (by omega) ?_
    refine wl_iload (pc' := 1141) dL_law_1139 rfl rfl ?_
    refine wl_icmpE (tgt := 1146) dL_law_1141 (by decide) hth ?_
    refine wl_iload (pc' := 1148) dL_law_1146 rfl rfl ?_
    refine wl_if_ne (tgt := 1163) (pc' := 1151) dL_law_1148 (by decide) rfl (cdz1 E).1 (fun _ => ?_) (fun hq => absurd hq (cdz1 E).2)
    refine wl_goto (pc' := 1922) dL_law_1163 (by decide) ?_
    refine wl_sub (ls' := lL i) [2, 3, 4, 5, 6] rfl ?_
    exact k _ x1 f1 _ _ hR1 (by omega) (by omega)
theorem R_commonTones (c0 : zCS) (x : zMX) (h : RelM c0 x.1 x.2.1 x.2.2.1) (i : Int) (hi : zin i) : zMetW q_X10_commonTones 3 0 0 [zR 0, zI i] (wMR c0 x) (Gl cd1 (cs_commonTones i c0)) := by
  exact r_commonTones c0.1 c0.2.1 c0.2.2.1 c0.2.2.2.1 c0.2.2.2.2.1 c0.2.2.2.2.2.1 c0.2.2.2.2.2.2.1 c0.2.2.2.2.2.2.2.1 c0.2.2.2.2.2.2.2.2.1 c0.2.2.2.2.2.2.2.2.2.1 c0.2.2.2.2.2.2.2.2.2.2.1 c0.2.2.2.2.2.2.2.2.2.2.2 x.1 x.2.1 x.2.2.1 x.2.2.2.1 x.2.2.2.2.1 x.2.2.2.2.2.1 x.2.2.2.2.2.2.1 x.2.2.2.2.2.2.2.1 x.2.2.2.2.2.2.2.2.1 x.2.2.2.2.2.2.2.2.2.1 x.2.2.2.2.2.2.2.2.2.2.1 x.2.2.2.2.2.2.2.2.2.2.2.1 x.2.2.2.2.2.2.2.2.2.2.2.2.1 x.2.2.2.2.2.2.2.2.2.2.2.2.2.1 x.2.2.2.2.2.2.2.2.2.2.2.2.2.2.1 x.2.2.2.2.2.2.2.2.2.2.2.2.2.2.2.1 x.2.2.2.2.2.2.2.2.2.2.2.2.2.2.2.2 h i hi
set_option maxRecDepth 10000 in
theorem t_commonTones {N : Nat} {xs : Nat → Int32} {mc ms nc ns : Nat} {i : Int} {c0 : zCS} {x : zMX} {f : Int → Int} (hN : N < 100000) (hi : 0 ≤ i ∧ i + 4 < N) (h : RelM c0 x.1 x.2.1 x.2.2.1) (hmc : nc + 3 ≤ mc) (hms : ns + 18 ≤ ms) (k : ∀ (c1 : zCS) (x1 : zMX) (f1 : Int → Int) (nc1 ns1 : Nat), RelM c1 x1.1 x1.2.1 x1.2.2.1 → nc1 ≤ nc + 3 → ns1 ≤ ns + 18 → WL N xs q_L_law 15 mc ms 0 PL 1922 (lL i) [] (LW c1 (wMR c1 x1) f1) nc1 ns1) : WL N xs q_L_law 15 mc ms 0 PL 1166 (lL i) [] (LW c0 (wMR c0 x) f) nc ns := by
  have hok := rel_ok h
  refine wl_aload_n (pc' := 1167) dL_law_1166 rfl rfl rfl ?_
  refine wl_aload_n (pc' := 1168) dL_law_1167 rfl rfl rfl ?_
  refine wl_iload (pc' := 1170) dL_law_1168 rfl rfl ?_
  refine wl_iconst (pc' := 1171) dL_law_1170 rfl ?_
  refine wl_iadd (pc' := 1172) dL_law_1171 rfl ?_
  refine wl_sload (pc' := 1173) dL_law_1172 rfl (by omega) (by omega) (by omega) ?_
  refine wl_aload_n (pc' := 1174) dL_law_1173 rfl rfl rfl ?_
  refine wl_h (pc' := 1177) (k_L_commonTones c0 hok f ((xs (i + 1).toNat).toInt) (zin_x _)) rfl ok_L_commonTones rfl lm_L_171 dL_law_1174 rfl rfl rfl (Nat.le_of_ble_eq_true rfl) (Nat.le_of_ble_eq_true rfl) (by omega) (by omega) (fun cv f1 hcv => ?_)
  refine wl_istore (pc' := 1179) (ls' := (5, zI cv) :: lL i) dL_law_1177 rfl (by decide) rfl ?_
  refine wl_aload_n (pc' := 1180) dL_law_1179 rfl rfl rfl ?_
  refine wl_aload_n (pc' := 1181) dL_law_1180 rfl rfl rfl ?_
  refine wl_iload (pc' := 1183) dL_law_1181 rfl rfl ?_
  refine wl_iconst (pc' := 1184) dL_law_1183 rfl ?_
  refine wl_iadd (pc' := 1185) dL_law_1184 rfl ?_
  refine wl_sload (pc' := 1186) dL_law_1185 rfl (by omega) (by omega) (by omega) ?_
  refine wl_m (pc' := 1189) (R_commonTones c0 x h ((xs (i + 1).toNat).toInt) (zin_x _)) (sh_commonTones ((xs (i + 1).toNat).toInt) c0).v ok_X10_commonTones lm_L_173 dL_law_1186 rfl rfl rfl rfl rfl (Nat.le_of_ble_eq_true rfl) (Nat.le_of_ble_eq_true rfl) rfl (by omega) (by omega) (fun x1 b hR1 hag => ?_)
  rcases hcv with ⟨a, ha, rfl, hf⟩ | ⟨E, hE, rfl⟩
  · obtain ⟨rfl, hth⟩ := agr_v ha hag
    refine wl_istore (pc' := 1191) (ls' := (6, zI a) :: (5, zI (0)) :: lL i) dL_law_1189 rfl (by decide) rfl ?_
    refine wl_aload_n (pc' := 1192) dL_law_1191 rfl rfl rfl ?_
    refine wl_th (pc' := 1195) lm_L_103 dL_law_1192 rfl (Nat.le_of_ble_eq_true rfl) (Nat.le_of_ble_eq_true rfl) rfl (by omega) (by omega) ?_
    refine wl_iload (pc' := 1197) dL_law_1195 rfl rfl ?_
    refine wl_icmpE (tgt := 1202) dL_law_1197 (by decide) hth ?_
    refine wl_iload (pc' := 1204) dL_law_1202 rfl rfl ?_
    refine wl_if_ne (tgt := 1219) (pc' := 1207) dL_law_1204 (by decide) rfl (by decide) (fun hq => absurd rfl hq) (fun _ => ?_)
    refine wl_aload_n (pc' := 1208) dL_law_1207 rfl rfl rfl ?_
    refine wl_iconst (pc' := 1209) dL_law_1208 rfl ?_
    refine wl_laload (pc' := 1210) (n := 1) (f := f1) dL_law_1209 rfl (LW_out _ _ _ rfl) (by decide) (by decide) (by decide) ?_
    refine wl_iload (pc' := 1212) dL_law_1210 rfl rfl ?_
    refine wl_i2lG (pc' := 1213) dL_law_1212 rfl ?_
    refine wl_lcmpE (pc' := 1214) dL_law_1213 rfl hf ?_
    refine wl_if_eq (tgt := 1219) (pc' := 1217) dL_law_1214 (by decide) rfl (by decide) (fun _ => ?_) (fun hq => absurd rfl hq)
    refine wl_goto (pc' := 1922) dL_law_1219 (by decide) ?_
    refine wl_sub (ls' := lL i) [2, 3, 4, 5, 6] rfl ?_
    exact k _ x1 f1 _ _ hR1 (by omega) (by omega)
  · obtain ⟨hth, n9, rfl⟩ := agr_x hE hag
    refine wl_istore (pc' := 1191) (ls' := (6, zI n9) :: (5, zI (cd1 E)) :: lL i) dL_law_1189 rfl (by decide) rfl ?_
    refine wl_aload_n (pc' := 1192) dL_law_1191 rfl rfl rfl ?_
    refine wl_th (pc' := 1195) lm_L_103 dL_law_1192 rfl (Nat.le_of_ble_eq_true rfl) (Nat.le_of_ble_eq_true rfl) rfl (by omega) (by omega) ?_
    refine wl_iload (pc' := 1197) dL_law_1195 rfl rfl ?_
    refine wl_icmpE (tgt := 1202) dL_law_1197 (by decide) hth ?_
    refine wl_iload (pc' := 1204) dL_law_1202 rfl rfl ?_
    refine wl_if_ne (tgt := 1219) (pc' := 1207) dL_law_1204 (by decide) rfl (cdz1 E).1 (fun _ => ?_) (fun hq => absurd hq (cdz1 E).2)
    refine wl_goto (pc' := 1922) dL_law_1219 (by decide) ?_
    refine wl_sub (ls' := lL i) [2, 3, 4, 5, 6] rfl ?_
    exact k _ x1 f1 _ _ hR1 (by omega) (by omega)
theorem R_degree (c0 : zCS) (x : zMX) (h : RelM c0 x.1 x.2.1 x.2.2.1) (i : Int) (hi : zin i) : zMetW q_X10_degree 3 0 0 [zR 0, zI i] (wMR c0 x) (Gl cd1 (cs_degree i c0)) := by
  exact r_degree c0.1 c0.2.1 c0.2.2.1 c0.2.2.2.1 c0.2.2.2.2.1 c0.2.2.2.2.2.1 c0.2.2.2.2.2.2.1 c0.2.2.2.2.2.2.2.1 c0.2.2.2.2.2.2.2.2.1 c0.2.2.2.2.2.2.2.2.2.1 c0.2.2.2.2.2.2.2.2.2.2.1 c0.2.2.2.2.2.2.2.2.2.2.2 x.1 x.2.1 x.2.2.1 x.2.2.2.1 x.2.2.2.2.1 x.2.2.2.2.2.1 x.2.2.2.2.2.2.1 x.2.2.2.2.2.2.2.1 x.2.2.2.2.2.2.2.2.1 x.2.2.2.2.2.2.2.2.2.1 x.2.2.2.2.2.2.2.2.2.2.1 x.2.2.2.2.2.2.2.2.2.2.2.1 x.2.2.2.2.2.2.2.2.2.2.2.2.1 x.2.2.2.2.2.2.2.2.2.2.2.2.2.1 x.2.2.2.2.2.2.2.2.2.2.2.2.2.2.1 x.2.2.2.2.2.2.2.2.2.2.2.2.2.2.2.1 x.2.2.2.2.2.2.2.2.2.2.2.2.2.2.2.2 h i hi
set_option maxRecDepth 10000 in
theorem t_degree {N : Nat} {xs : Nat → Int32} {mc ms nc ns : Nat} {i : Int} {c0 : zCS} {x : zMX} {f : Int → Int} (hN : N < 100000) (hi : 0 ≤ i ∧ i + 4 < N) (h : RelM c0 x.1 x.2.1 x.2.2.1) (hmc : nc + 3 ≤ mc) (hms : ns + 18 ≤ ms) (k : ∀ (c1 : zCS) (x1 : zMX) (f1 : Int → Int) (nc1 ns1 : Nat), RelM c1 x1.1 x1.2.1 x1.2.2.1 → nc1 ≤ nc + 3 → ns1 ≤ ns + 18 → WL N xs q_L_law 15 mc ms 0 PL 1922 (lL i) [] (LW c1 (wMR c1 x1) f1) nc1 ns1) : WL N xs q_L_law 15 mc ms 0 PL 1222 (lL i) [] (LW c0 (wMR c0 x) f) nc ns := by
  have hok := rel_ok h
  refine wl_aload_n (pc' := 1223) dL_law_1222 rfl rfl rfl ?_
  refine wl_aload_n (pc' := 1224) dL_law_1223 rfl rfl rfl ?_
  refine wl_iload (pc' := 1226) dL_law_1224 rfl rfl ?_
  refine wl_iconst (pc' := 1227) dL_law_1226 rfl ?_
  refine wl_iadd (pc' := 1228) dL_law_1227 rfl ?_
  refine wl_sload (pc' := 1229) dL_law_1228 rfl (by omega) (by omega) (by omega) ?_
  refine wl_aload_n (pc' := 1230) dL_law_1229 rfl rfl rfl ?_
  refine wl_h (pc' := 1233) (k_L_degree c0 hok f ((xs (i + 1).toNat).toInt) (zin_x _)) rfl ok_L_degree rfl lm_L_174 dL_law_1230 rfl rfl rfl (Nat.le_of_ble_eq_true rfl) (Nat.le_of_ble_eq_true rfl) (by omega) (by omega) (fun cv f1 hcv => ?_)
  refine wl_istore (pc' := 1235) (ls' := (5, zI cv) :: lL i) dL_law_1233 rfl (by decide) rfl ?_
  refine wl_aload_n (pc' := 1236) dL_law_1235 rfl rfl rfl ?_
  refine wl_aload_n (pc' := 1237) dL_law_1236 rfl rfl rfl ?_
  refine wl_iload (pc' := 1239) dL_law_1237 rfl rfl ?_
  refine wl_iconst (pc' := 1240) dL_law_1239 rfl ?_
  refine wl_iadd (pc' := 1241) dL_law_1240 rfl ?_
  refine wl_sload (pc' := 1242) dL_law_1241 rfl (by omega) (by omega) (by omega) ?_
  refine wl_m (pc' := 1245) (R_degree c0 x h ((xs (i + 1).toNat).toInt) (zin_x _)) (sh_degree ((xs (i + 1).toNat).toInt) c0).v ok_X10_degree lm_L_176 dL_law_1242 rfl rfl rfl rfl rfl (Nat.le_of_ble_eq_true rfl) (Nat.le_of_ble_eq_true rfl) rfl (by omega) (by omega) (fun x1 b hR1 hag => ?_)
  rcases hcv with ⟨a, ha, rfl, hf⟩ | ⟨E, hE, rfl⟩
  · obtain ⟨rfl, hth⟩ := agr_v ha hag
    refine wl_istore (pc' := 1247) (ls' := (6, zI a) :: (5, zI (0)) :: lL i) dL_law_1245 rfl (by decide) rfl ?_
    refine wl_aload_n (pc' := 1248) dL_law_1247 rfl rfl rfl ?_
    refine wl_th (pc' := 1251) lm_L_103 dL_law_1248 rfl (Nat.le_of_ble_eq_true rfl) (Nat.le_of_ble_eq_true rfl) rfl (by omega) (by omega) ?_
    refine wl_iload (pc' := 1253) dL_law_1251 rfl rfl ?_
    refine wl_icmpE (tgt := 1258) dL_law_1253 (by decide) hth ?_
    refine wl_iload (pc' := 1260) dL_law_1258 rfl rfl ?_
    refine wl_if_ne (tgt := 1275) (pc' := 1263) dL_law_1260 (by decide) rfl (by decide) (fun hq => absurd rfl hq) (fun _ => ?_)
    refine wl_aload_n (pc' := 1264) dL_law_1263 rfl rfl rfl ?_
    refine wl_iconst (pc' := 1265) dL_law_1264 rfl ?_
    refine wl_laload (pc' := 1266) (n := 1) (f := f1) dL_law_1265 rfl (LW_out _ _ _ rfl) (by decide) (by decide) (by decide) ?_
    refine wl_iload (pc' := 1268) dL_law_1266 rfl rfl ?_
    refine wl_i2lG (pc' := 1269) dL_law_1268 rfl ?_
    refine wl_lcmpE (pc' := 1270) dL_law_1269 rfl hf ?_
    refine wl_if_eq (tgt := 1275) (pc' := 1273) dL_law_1270 (by decide) rfl (by decide) (fun _ => ?_) (fun hq => absurd rfl hq)
    refine wl_goto (pc' := 1922) dL_law_1275 (by decide) ?_
    refine wl_sub (ls' := lL i) [2, 3, 4, 5, 6] rfl ?_
    exact k _ x1 f1 _ _ hR1 (by omega) (by omega)
  · obtain ⟨hth, n9, rfl⟩ := agr_x hE hag
    refine wl_istore (pc' := 1247) (ls' := (6, zI n9) :: (5, zI (cd1 E)) :: lL i) dL_law_1245 rfl (by decide) rfl ?_
    refine wl_aload_n (pc' := 1248) dL_law_1247 rfl rfl rfl ?_
    refine wl_th (pc' := 1251) lm_L_103 dL_law_1248 rfl (Nat.le_of_ble_eq_true rfl) (Nat.le_of_ble_eq_true rfl) rfl (by omega) (by omega) ?_
    refine wl_iload (pc' := 1253) dL_law_1251 rfl rfl ?_
    refine wl_icmpE (tgt := 1258) dL_law_1253 (by decide) hth ?_
    refine wl_iload (pc' := 1260) dL_law_1258 rfl rfl ?_
    refine wl_if_ne (tgt := 1275) (pc' := 1263) dL_law_1260 (by decide) rfl (cdz1 E).1 (fun _ => ?_) (fun hq => absurd hq (cdz1 E).2)
    refine wl_goto (pc' := 1922) dL_law_1275 (by decide) ?_
    refine wl_sub (ls' := lL i) [2, 3, 4, 5, 6] rfl ?_
    exact k _ x1 f1 _ _ hR1 (by omega) (by omega)
theorem sh_tonic  (c0 : zCS) : ShI [] (cs_tonic c0) := by
  obtain ⟨t, nm, s, D, H, ol, ct, k, y, si, fl, wi⟩ := c0
  unfold cs_tonic
  repeat' (first | exact sh_i | apply sh_ite)
theorem R_tonic (c0 : zCS) (x : zMX) (h : RelM c0 x.1 x.2.1 x.2.2.1)  : zMetW q_X10_tonic 0 0 0 [zR 0] (wMR c0 x) (Gl cd1 (cs_tonic c0)) := by
  exact r_tonic c0.1 c0.2.1 c0.2.2.1 c0.2.2.2.1 c0.2.2.2.2.1 c0.2.2.2.2.2.1 c0.2.2.2.2.2.2.1 c0.2.2.2.2.2.2.2.1 c0.2.2.2.2.2.2.2.2.1 c0.2.2.2.2.2.2.2.2.2.1 c0.2.2.2.2.2.2.2.2.2.2.1 c0.2.2.2.2.2.2.2.2.2.2.2 x.1 x.2.1 x.2.2.1 x.2.2.2.1 x.2.2.2.2.1 x.2.2.2.2.2.1 x.2.2.2.2.2.2.1 x.2.2.2.2.2.2.2.1 x.2.2.2.2.2.2.2.2.1 x.2.2.2.2.2.2.2.2.2.1 x.2.2.2.2.2.2.2.2.2.2.1 x.2.2.2.2.2.2.2.2.2.2.2.1 x.2.2.2.2.2.2.2.2.2.2.2.2.1 x.2.2.2.2.2.2.2.2.2.2.2.2.2.1 x.2.2.2.2.2.2.2.2.2.2.2.2.2.2.1 x.2.2.2.2.2.2.2.2.2.2.2.2.2.2.2.1 x.2.2.2.2.2.2.2.2.2.2.2.2.2.2.2.2 h
set_option maxRecDepth 10000 in
theorem t_tonic {N : Nat} {xs : Nat → Int32} {mc ms nc ns : Nat} {i : Int} {c0 : zCS} {x : zMX} {f : Int → Int} (hN : N < 100000) (hi : 0 ≤ i ∧ i + 4 < N) (h : RelM c0 x.1 x.2.1 x.2.2.1) (hmc : nc + 3 ≤ mc) (hms : ns + 18 ≤ ms) (k : ∀ (c1 : zCS) (x1 : zMX) (f1 : Int → Int) (nc1 ns1 : Nat), RelM c1 x1.1 x1.2.1 x1.2.2.1 → nc1 ≤ nc + 3 → ns1 ≤ ns + 18 → WL N xs q_L_law 15 mc ms 0 PL 1922 (lL i) [] (LW c1 (wMR c1 x1) f1) nc1 ns1) : WL N xs q_L_law 15 mc ms 0 PL 1278 (lL i) [] (LW c0 (wMR c0 x) f) nc ns := by
  have hok := rel_ok h
  obtain ⟨a, ha⟩ : ∃ a, (cs_tonic c0).1 = .inl (some (zI a)) := by
    rcases (sh_tonic  c0) with h9 | ⟨E, hE, -⟩
    · exact h9
    · exact nomatch hE
  refine wl_aload_n (pc' := 1279) dL_law_1278 rfl rfl rfl ?_
  refine wl_x (pc' := 1282) (k_X9_tonic c0.1 c0.2.1 c0.2.2.1 c0.2.2.2.1 c0.2.2.2.2.1 c0.2.2.2.2.2.1 c0.2.2.2.2.2.2.1 c0.2.2.2.2.2.2.2.1 c0.2.2.2.2.2.2.2.2.1 c0.2.2.2.2.2.2.2.2.2.1 c0.2.2.2.2.2.2.2.2.2.2.1 c0.2.2.2.2.2.2.2.2.2.2.2 hok) ha rfl ok_X9_tonic lm_L_177 dL_law_1279 rfl rfl rfl rfl rfl (Nat.le_of_ble_eq_true rfl) (Nat.le_of_ble_eq_true rfl) rfl (by omega) (by omega) ?_
  refine wl_aload_n (pc' := 1283) dL_law_1282 rfl rfl rfl ?_
  refine wl_m (pc' := 1286) (R_tonic c0 x h) (sh_tonic  c0).v ok_X10_tonic lm_L_180 dL_law_1283 rfl rfl rfl rfl rfl (Nat.le_of_ble_eq_true rfl) (Nat.le_of_ble_eq_true rfl) rfl (by omega) (by omega) (fun x1 b hR1 hag => ?_)
  obtain ⟨rfl, -⟩ := agr_v ha hag
  refine wl_icmpE (tgt := 1922) dL_law_1286 (by decide) rfl ?_
  exact k _ x1 f _ _ hR1 (by omega) (by omega)
theorem sh_isMinor  (c0 : zCS) : ShI [] (cs_isMinor c0) := by
  obtain ⟨t, nm, s, D, H, ol, ct, k, y, si, fl, wi⟩ := c0
  unfold cs_isMinor
  repeat' (first | exact sh_i | apply sh_ite)
theorem R_isMinor (c0 : zCS) (x : zMX) (h : RelM c0 x.1 x.2.1 x.2.2.1)  : zMetW q_X10_isMinor 0 0 0 [zR 0] (wMR c0 x) (Gl cd1 (cs_isMinor c0)) := by
  exact r_isMinor c0.1 c0.2.1 c0.2.2.1 c0.2.2.2.1 c0.2.2.2.2.1 c0.2.2.2.2.2.1 c0.2.2.2.2.2.2.1 c0.2.2.2.2.2.2.2.1 c0.2.2.2.2.2.2.2.2.1 c0.2.2.2.2.2.2.2.2.2.1 c0.2.2.2.2.2.2.2.2.2.2.1 c0.2.2.2.2.2.2.2.2.2.2.2 x.1 x.2.1 x.2.2.1 x.2.2.2.1 x.2.2.2.2.1 x.2.2.2.2.2.1 x.2.2.2.2.2.2.1 x.2.2.2.2.2.2.2.1 x.2.2.2.2.2.2.2.2.1 x.2.2.2.2.2.2.2.2.2.1 x.2.2.2.2.2.2.2.2.2.2.1 x.2.2.2.2.2.2.2.2.2.2.2.1 x.2.2.2.2.2.2.2.2.2.2.2.2.1 x.2.2.2.2.2.2.2.2.2.2.2.2.2.1 x.2.2.2.2.2.2.2.2.2.2.2.2.2.2.1 x.2.2.2.2.2.2.2.2.2.2.2.2.2.2.2.1 x.2.2.2.2.2.2.2.2.2.2.2.2.2.2.2.2 h
set_option maxRecDepth 10000 in
theorem t_isMinor {N : Nat} {xs : Nat → Int32} {mc ms nc ns : Nat} {i : Int} {c0 : zCS} {x : zMX} {f : Int → Int} (hN : N < 100000) (hi : 0 ≤ i ∧ i + 4 < N) (h : RelM c0 x.1 x.2.1 x.2.2.1) (hmc : nc + 3 ≤ mc) (hms : ns + 18 ≤ ms) (k : ∀ (c1 : zCS) (x1 : zMX) (f1 : Int → Int) (nc1 ns1 : Nat), RelM c1 x1.1 x1.2.1 x1.2.2.1 → nc1 ≤ nc + 3 → ns1 ≤ ns + 18 → WL N xs q_L_law 15 mc ms 0 PL 1922 (lL i) [] (LW c1 (wMR c1 x1) f1) nc1 ns1) : WL N xs q_L_law 15 mc ms 0 PL 1291 (lL i) [] (LW c0 (wMR c0 x) f) nc ns := by
  have hok := rel_ok h
  obtain ⟨a, ha⟩ : ∃ a, (cs_isMinor c0).1 = .inl (some (zI a)) := by
    rcases (sh_isMinor  c0) with h9 | ⟨E, hE, -⟩
    · exact h9
    · exact nomatch hE
  refine wl_aload_n (pc' := 1292) dL_law_1291 rfl rfl rfl ?_
  refine wl_x (pc' := 1295) (k_X9_isMinor c0.1 c0.2.1 c0.2.2.1 c0.2.2.2.1 c0.2.2.2.2.1 c0.2.2.2.2.2.1 c0.2.2.2.2.2.2.1 c0.2.2.2.2.2.2.2.1 c0.2.2.2.2.2.2.2.2.1 c0.2.2.2.2.2.2.2.2.2.1 c0.2.2.2.2.2.2.2.2.2.2.1 c0.2.2.2.2.2.2.2.2.2.2.2 hok) ha rfl ok_X9_isMinor lm_L_181 dL_law_1292 rfl rfl rfl rfl rfl (Nat.le_of_ble_eq_true rfl) (Nat.le_of_ble_eq_true rfl) rfl (by omega) (by omega) ?_
  refine wl_aload_n (pc' := 1296) dL_law_1295 rfl rfl rfl ?_
  refine wl_m (pc' := 1299) (R_isMinor c0 x h) (sh_isMinor  c0).v ok_X10_isMinor lm_L_185 dL_law_1296 rfl rfl rfl rfl rfl (Nat.le_of_ble_eq_true rfl) (Nat.le_of_ble_eq_true rfl) rfl (by omega) (by omega) (fun x1 b hR1 hag => ?_)
  obtain ⟨rfl, -⟩ := agr_v ha hag
  refine wl_icmpE (tgt := 1922) dL_law_1299 (by decide) rfl ?_
  exact k _ x1 f _ _ hR1 (by omega) (by omega)
theorem sh_signature  (c0 : zCS) : ShI [] (cs_signature c0) := by
  obtain ⟨t, nm, s, D, H, ol, ct, k, y, si, fl, wi⟩ := c0
  unfold cs_signature
  repeat' (first | exact sh_i | apply sh_ite)
theorem R_signature (c0 : zCS) (x : zMX) (h : RelM c0 x.1 x.2.1 x.2.2.1)  : zMetW q_X10_signature 1 0 0 [zR 0] (wMR c0 x) (Gl cd1 (cs_signature c0)) := by
  exact r_signature c0.1 c0.2.1 c0.2.2.1 c0.2.2.2.1 c0.2.2.2.2.1 c0.2.2.2.2.2.1 c0.2.2.2.2.2.2.1 c0.2.2.2.2.2.2.2.1 c0.2.2.2.2.2.2.2.2.1 c0.2.2.2.2.2.2.2.2.2.1 c0.2.2.2.2.2.2.2.2.2.2.1 c0.2.2.2.2.2.2.2.2.2.2.2 x.1 x.2.1 x.2.2.1 x.2.2.2.1 x.2.2.2.2.1 x.2.2.2.2.2.1 x.2.2.2.2.2.2.1 x.2.2.2.2.2.2.2.1 x.2.2.2.2.2.2.2.2.1 x.2.2.2.2.2.2.2.2.2.1 x.2.2.2.2.2.2.2.2.2.2.1 x.2.2.2.2.2.2.2.2.2.2.2.1 x.2.2.2.2.2.2.2.2.2.2.2.2.1 x.2.2.2.2.2.2.2.2.2.2.2.2.2.1 x.2.2.2.2.2.2.2.2.2.2.2.2.2.2.1 x.2.2.2.2.2.2.2.2.2.2.2.2.2.2.2.1 x.2.2.2.2.2.2.2.2.2.2.2.2.2.2.2.2 h
set_option maxRecDepth 10000 in
theorem t_signature {N : Nat} {xs : Nat → Int32} {mc ms nc ns : Nat} {i : Int} {c0 : zCS} {x : zMX} {f : Int → Int} (hN : N < 100000) (hi : 0 ≤ i ∧ i + 4 < N) (h : RelM c0 x.1 x.2.1 x.2.2.1) (hmc : nc + 3 ≤ mc) (hms : ns + 18 ≤ ms) (k : ∀ (c1 : zCS) (x1 : zMX) (f1 : Int → Int) (nc1 ns1 : Nat), RelM c1 x1.1 x1.2.1 x1.2.2.1 → nc1 ≤ nc + 3 → ns1 ≤ ns + 18 → WL N xs q_L_law 15 mc ms 0 PL 1922 (lL i) [] (LW c1 (wMR c1 x1) f1) nc1 ns1) : WL N xs q_L_law 15 mc ms 0 PL 1304 (lL i) [] (LW c0 (wMR c0 x) f) nc ns := by
  have hok := rel_ok h
  obtain ⟨a, ha⟩ : ∃ a, (cs_signature c0).1 = .inl (some (zI a)) := by
    rcases (sh_signature  c0) with h9 | ⟨E, hE, -⟩
    · exact h9
    · exact nomatch hE
  refine wl_aload_n (pc' := 1305) dL_law_1304 rfl rfl rfl ?_
  refine wl_x (pc' := 1308) (k_X9_signature c0.1 c0.2.1 c0.2.2.1 c0.2.2.2.1 c0.2.2.2.2.1 c0.2.2.2.2.2.1 c0.2.2.2.2.2.2.1 c0.2.2.2.2.2.2.2.1 c0.2.2.2.2.2.2.2.2.1 c0.2.2.2.2.2.2.2.2.2.1 c0.2.2.2.2.2.2.2.2.2.2.1 c0.2.2.2.2.2.2.2.2.2.2.2 hok) ha rfl ok_X9_signature lm_L_186 dL_law_1305 rfl rfl rfl rfl rfl (Nat.le_of_ble_eq_true rfl) (Nat.le_of_ble_eq_true rfl) rfl (by omega) (by omega) ?_
  refine wl_aload_n (pc' := 1309) dL_law_1308 rfl rfl rfl ?_
  refine wl_m (pc' := 1312) (R_signature c0 x h) (sh_signature  c0).v ok_X10_signature lm_L_189 dL_law_1309 rfl rfl rfl rfl rfl (Nat.le_of_ble_eq_true rfl) (Nat.le_of_ble_eq_true rfl) rfl (by omega) (by omega) (fun x1 b hR1 hag => ?_)
  obtain ⟨rfl, -⟩ := agr_v ha hag
  refine wl_icmpE (tgt := 1922) dL_law_1312 (by decide) rfl ?_
  exact k _ x1 f _ _ hR1 (by omega) (by omega)
theorem R_setKey (c0 : zCS) (x : zMX) (h : RelM c0 x.1 x.2.1 x.2.2.1) (p : Int) (hp : zin p) (b : Int) (hb : b = 0 ∨ b = 1) : zMetW q_X10_setKey 2 0 0 [zR 0, zI p, zI b] (wMR c0 x) (Gl cd1 (cs_setKey p b c0)) := by
  exact r_setKey c0.1 c0.2.1 c0.2.2.1 c0.2.2.2.1 c0.2.2.2.2.1 c0.2.2.2.2.2.1 c0.2.2.2.2.2.2.1 c0.2.2.2.2.2.2.2.1 c0.2.2.2.2.2.2.2.2.1 c0.2.2.2.2.2.2.2.2.2.1 c0.2.2.2.2.2.2.2.2.2.2.1 c0.2.2.2.2.2.2.2.2.2.2.2 x.1 x.2.1 x.2.2.1 x.2.2.2.1 x.2.2.2.2.1 x.2.2.2.2.2.1 x.2.2.2.2.2.2.1 x.2.2.2.2.2.2.2.1 x.2.2.2.2.2.2.2.2.1 x.2.2.2.2.2.2.2.2.2.1 x.2.2.2.2.2.2.2.2.2.2.1 x.2.2.2.2.2.2.2.2.2.2.2.1 x.2.2.2.2.2.2.2.2.2.2.2.2.1 x.2.2.2.2.2.2.2.2.2.2.2.2.2.1 x.2.2.2.2.2.2.2.2.2.2.2.2.2.2.1 x.2.2.2.2.2.2.2.2.2.2.2.2.2.2.2.1 x.2.2.2.2.2.2.2.2.2.2.2.2.2.2.2.2 h p hp b hb
set_option maxRecDepth 10000 in
theorem t_setKey {N : Nat} {xs : Nat → Int32} {mc ms nc ns : Nat} {i : Int} {c0 : zCS} {x : zMX} {f : Int → Int} (hN : N < 100000) (hi : 0 ≤ i ∧ i + 4 < N) (h : RelM c0 x.1 x.2.1 x.2.2.1) (hmc : nc + 3 ≤ mc) (hms : ns + 18 ≤ ms) (k : ∀ (c1 : zCS) (x1 : zMX) (f1 : Int → Int) (nc1 ns1 : Nat), RelM c1 x1.1 x1.2.1 x1.2.2.1 → nc1 ≤ nc + 3 → ns1 ≤ ns + 18 → WL N xs q_L_law 15 mc ms 0 PL 1922 (lL i) [] (LW c1 (wMR c1 x1) f1) nc1 ns1) : WL N xs q_L_law 15 mc ms 0 PL 1317 (lL i) [] (LW c0 (wMR c0 x) f) nc ns := by
  have hok := rel_ok h
  by_cases b9 : (xs (i + 2).toNat).toInt = 0
  · refine wl_aload_n (pc' := 1318) dL_law_1317 rfl rfl rfl ?_
    refine wl_aload_n (pc' := 1319) dL_law_1318 rfl rfl rfl ?_
    refine wl_iload (pc' := 1321) dL_law_1319 rfl rfl ?_
    refine wl_iconst (pc' := 1322) dL_law_1321 rfl ?_
    refine wl_iadd (pc' := 1323) dL_law_1322 rfl ?_
    refine wl_sload (pc' := 1324) dL_law_1323 rfl (by omega) (by omega) (by omega) ?_
    refine wl_aload_n (pc' := 1325) dL_law_1324 rfl rfl rfl ?_
    refine wl_iload (pc' := 1327) dL_law_1325 rfl rfl ?_
    refine wl_iconst (pc' := 1328) dL_law_1327 rfl ?_
    refine wl_iadd (pc' := 1329) dL_law_1328 rfl ?_
    refine wl_sload (pc' := 1330) dL_law_1329 rfl (by omega) (by omega) (by omega) ?_
    refine wl_if_eq (tgt := 1337) (pc' := 1333) dL_law_1330 (by decide) rfl (zin_x _) (fun _ => ?_) (fun hq => absurd b9 hq)
    refine wl_iconst (pc' := 1338) dL_law_1337 rfl ?_
    refine wl_aload_n (pc' := 1339) dL_law_1338 rfl rfl rfl ?_
    refine wl_h (pc' := 1342) (k_L_setKey c0 hok f ((xs (i + 1).toNat).toInt) (zin_x _) (0) (Or.inl rfl)) rfl ok_L_setKey rfl lm_L_190 dL_law_1339 rfl rfl rfl (Nat.le_of_ble_eq_true rfl) (Nat.le_of_ble_eq_true rfl) (by omega) (by omega) (fun cv f1 hcv => ?_)
    refine wl_istore (pc' := 1344) (ls' := (5, zI cv) :: lL i) dL_law_1342 rfl (by decide) rfl ?_
    refine wl_aload_n (pc' := 1345) dL_law_1344 rfl rfl rfl ?_
    refine wl_aload_n (pc' := 1346) dL_law_1345 rfl rfl rfl ?_
    refine wl_iload (pc' := 1348) dL_law_1346 rfl rfl ?_
    refine wl_iconst (pc' := 1349) dL_law_1348 rfl ?_
    refine wl_iadd (pc' := 1350) dL_law_1349 rfl ?_
    refine wl_sload (pc' := 1351) dL_law_1350 rfl (by omega) (by omega) (by omega) ?_
    refine wl_aload_n (pc' := 1352) dL_law_1351 rfl rfl rfl ?_
    refine wl_iload (pc' := 1354) dL_law_1352 rfl rfl ?_
    refine wl_iconst (pc' := 1355) dL_law_1354 rfl ?_
    refine wl_iadd (pc' := 1356) dL_law_1355 rfl ?_
    refine wl_sload (pc' := 1357) dL_law_1356 rfl (by omega) (by omega) (by omega) ?_
    refine wl_if_eq (tgt := 1364) (pc' := 1360) dL_law_1357 (by decide) rfl (zin_x _) (fun _ => ?_) (fun hq => absurd b9 hq)
    refine wl_iconst (pc' := 1365) dL_law_1364 rfl ?_
    refine wl_m (pc' := 1368) (R_setKey c0 x h ((xs (i + 1).toNat).toInt) (zin_x _) (0) (Or.inl rfl)) (sh_setKey ((xs (i + 1).toNat).toInt) (0) c0).v ok_X10_setKey lm_L_193 dL_law_1365 rfl rfl rfl rfl rfl (Nat.le_of_ble_eq_true rfl) (Nat.le_of_ble_eq_true rfl) rfl (by omega) (by omega) (fun x1 b hR1 hag => ?_)
    rcases hcv with ⟨a, ha, rfl, hf⟩ | ⟨E, hE, rfl⟩
    · obtain ⟨rfl, hth⟩ := agr_v ha hag
      refine wl_istore (pc' := 1370) (ls' := (6, zI a) :: (5, zI (0)) :: lL i) dL_law_1368 rfl (by decide) rfl ?_
      refine wl_aload_n (pc' := 1371) dL_law_1370 rfl rfl rfl ?_
      refine wl_th (pc' := 1374) lm_L_103 dL_law_1371 rfl (Nat.le_of_ble_eq_true rfl) (Nat.le_of_ble_eq_true rfl) rfl (by omega) (by omega) ?_
      refine wl_iload (pc' := 1376) dL_law_1374 rfl rfl ?_
      refine wl_icmpE (tgt := 1381) dL_law_1376 (by decide) hth ?_
      refine wl_iload (pc' := 1383) dL_law_1381 rfl rfl ?_
      refine wl_if_ne (tgt := 1398) (pc' := 1386) dL_law_1383 (by decide) rfl (by decide) (fun hq => absurd rfl hq) (fun _ => ?_)
      refine wl_aload_n (pc' := 1387) dL_law_1386 rfl rfl rfl ?_
      refine wl_iconst (pc' := 1388) dL_law_1387 rfl ?_
      refine wl_laload (pc' := 1389) (n := 1) (f := f1) dL_law_1388 rfl (LW_out _ _ _ rfl) (by decide) (by decide) (by decide) ?_
      refine wl_iload (pc' := 1391) dL_law_1389 rfl rfl ?_
      refine wl_i2lG (pc' := 1392) dL_law_1391 rfl ?_
      refine wl_lcmpE (pc' := 1393) dL_law_1392 rfl hf ?_
      refine wl_if_eq (tgt := 1398) (pc' := 1396) dL_law_1393 (by decide) rfl (by decide) (fun _ => ?_) (fun hq => absurd rfl hq)
      refine wl_goto (pc' := 1922) dL_law_1398 (by decide) ?_
      refine wl_sub (ls' := lL i) [2, 3, 4, 5, 6] rfl ?_
      exact k _ x1 f1 _ _ hR1 (by omega) (by omega)
    · obtain ⟨hth, n9, rfl⟩ := agr_x hE hag
      refine wl_istore (pc' := 1370) (ls' := (6, zI n9) :: (5, zI (cd1 E)) :: lL i) dL_law_1368 rfl (by decide) rfl ?_
      refine wl_aload_n (pc' := 1371) dL_law_1370 rfl rfl rfl ?_
      refine wl_th (pc' := 1374) lm_L_103 dL_law_1371 rfl (Nat.le_of_ble_eq_true rfl) (Nat.le_of_ble_eq_true rfl) rfl (by omega) (by omega) ?_
      refine wl_iload (pc' := 1376) dL_law_1374 rfl rfl ?_
      refine wl_icmpE (tgt := 1381) dL_law_1376 (by decide) hth ?_
      refine wl_iload (pc' := 1383) dL_law_1381 rfl rfl ?_
      refine wl_if_ne (tgt := 1398) (pc' := 1386) dL_law_1383 (by decide) rfl (cdz1 E).1 (fun _ => ?_) (fun hq => absurd hq (cdz1 E).2)
      refine wl_goto (pc' := 1922) dL_law_1398 (by decide) ?_
      refine wl_sub (ls' := lL i) [2, 3, 4, 5, 6] rfl ?_
      exact k _ x1 f1 _ _ hR1 (by omega) (by omega)
  · refine wl_aload_n (pc' := 1318) dL_law_1317 rfl rfl rfl ?_
    refine wl_aload_n (pc' := 1319) dL_law_1318 rfl rfl rfl ?_
    refine wl_iload (pc' := 1321) dL_law_1319 rfl rfl ?_
    refine wl_iconst (pc' := 1322) dL_law_1321 rfl ?_
    refine wl_iadd (pc' := 1323) dL_law_1322 rfl ?_
    refine wl_sload (pc' := 1324) dL_law_1323 rfl (by omega) (by omega) (by omega) ?_
    refine wl_aload_n (pc' := 1325) dL_law_1324 rfl rfl rfl ?_
    refine wl_iload (pc' := 1327) dL_law_1325 rfl rfl ?_
    refine wl_iconst (pc' := 1328) dL_law_1327 rfl ?_
    refine wl_iadd (pc' := 1329) dL_law_1328 rfl ?_
    refine wl_sload (pc' := 1330) dL_law_1329 rfl (by omega) (by omega) (by omega) ?_
    refine wl_if_eq (tgt := 1337) (pc' := 1333) dL_law_1330 (by decide) rfl (zin_x _) (fun hq => absurd hq b9) (fun _ => ?_)
    refine wl_iconst (pc' := 1334) dL_law_1333 rfl ?_
    refine wl_goto (pc' := 1338) dL_law_1334 (by decide) ?_
    refine wl_aload_n (pc' := 1339) dL_law_1338 rfl rfl rfl ?_
    refine wl_h (pc' := 1342) (k_L_setKey c0 hok f ((xs (i + 1).toNat).toInt) (zin_x _) (1) (Or.inr rfl)) rfl ok_L_setKey rfl lm_L_190 dL_law_1339 rfl rfl rfl (Nat.le_of_ble_eq_true rfl) (Nat.le_of_ble_eq_true rfl) (by omega) (by omega) (fun cv f1 hcv => ?_)
    refine wl_istore (pc' := 1344) (ls' := (5, zI cv) :: lL i) dL_law_1342 rfl (by decide) rfl ?_
    refine wl_aload_n (pc' := 1345) dL_law_1344 rfl rfl rfl ?_
    refine wl_aload_n (pc' := 1346) dL_law_1345 rfl rfl rfl ?_
    refine wl_iload (pc' := 1348) dL_law_1346 rfl rfl ?_
    refine wl_iconst (pc' := 1349) dL_law_1348 rfl ?_
    refine wl_iadd (pc' := 1350) dL_law_1349 rfl ?_
    refine wl_sload (pc' := 1351) dL_law_1350 rfl (by omega) (by omega) (by omega) ?_
    refine wl_aload_n (pc' := 1352) dL_law_1351 rfl rfl rfl ?_
    refine wl_iload (pc' := 1354) dL_law_1352 rfl rfl ?_
    refine wl_iconst (pc' := 1355) dL_law_1354 rfl ?_
    refine wl_iadd (pc' := 1356) dL_law_1355 rfl ?_
    refine wl_sload (pc' := 1357) dL_law_1356 rfl (by omega) (by omega) (by omega) ?_
    refine wl_if_eq (tgt := 1364) (pc' := 1360) dL_law_1357 (by decide) rfl (zin_x _) (fun hq => absurd hq b9) (fun _ => ?_)
    refine wl_iconst (pc' := 1361) dL_law_1360 rfl ?_
    refine wl_goto (pc' := 1365) dL_law_1361 (by decide) ?_
    refine wl_m (pc' := 1368) (R_setKey c0 x h ((xs (i + 1).toNat).toInt) (zin_x _) (1) (Or.inr rfl)) (sh_setKey ((xs (i + 1).toNat).toInt) (1) c0).v ok_X10_setKey lm_L_193 dL_law_1365 rfl rfl rfl rfl rfl (Nat.le_of_ble_eq_true rfl) (Nat.le_of_ble_eq_true rfl) rfl (by omega) (by omega) (fun x1 b hR1 hag => ?_)
    rcases hcv with ⟨a, ha, rfl, hf⟩ | ⟨E, hE, rfl⟩
    · obtain ⟨rfl, hth⟩ := agr_v ha hag
      refine wl_istore (pc' := 1370) (ls' := (6, zI a) :: (5, zI (0)) :: lL i) dL_law_1368 rfl (by decide) rfl ?_
      refine wl_aload_n (pc' := 1371) dL_law_1370 rfl rfl rfl ?_
      refine wl_th (pc' := 1374) lm_L_103 dL_law_1371 rfl (Nat.le_of_ble_eq_true rfl) (Nat.le_of_ble_eq_true rfl) rfl (by omega) (by omega) ?_
      refine wl_iload (pc' := 1376) dL_law_1374 rfl rfl ?_
      refine wl_icmpE (tgt := 1381) dL_law_1376 (by decide) hth ?_
      refine wl_iload (pc' := 1383) dL_law_1381 rfl rfl ?_
      refine wl_if_ne (tgt := 1398) (pc' := 1386) dL_law_1383 (by decide) rfl (by decide) (fun hq => absurd rfl hq) (fun _ => ?_)
      refine wl_aload_n (pc' := 1387) dL_law_1386 rfl rfl rfl ?_
      refine wl_iconst (pc' := 1388) dL_law_1387 rfl ?_
      refine wl_laload (pc' := 1389) (n := 1) (f := f1) dL_law_1388 rfl (LW_out _ _ _ rfl) (by decide) (by decide) (by decide) ?_
      refine wl_iload (pc' := 1391) dL_law_1389 rfl rfl ?_
      refine wl_i2lG (pc' := 1392) dL_law_1391 rfl ?_
      refine wl_lcmpE (pc' := 1393) dL_law_1392 rfl hf ?_
      refine wl_if_eq (tgt := 1398) (pc' := 1396) dL_law_1393 (by decide) rfl (by decide) (fun _ => ?_) (fun hq => absurd rfl hq)
      refine wl_goto (pc' := 1922) dL_law_1398 (by decide) ?_
      refine wl_sub (ls' := lL i) [2, 3, 4, 5, 6] rfl ?_
      exact k _ x1 f1 _ _ hR1 (by omega) (by omega)
    · obtain ⟨hth, n9, rfl⟩ := agr_x hE hag
      refine wl_istore (pc' := 1370) (ls' := (6, zI n9) :: (5, zI (cd1 E)) :: lL i) dL_law_1368 rfl (by decide) rfl ?_
      refine wl_aload_n (pc' := 1371) dL_law_1370 rfl rfl rfl ?_
      refine wl_th (pc' := 1374) lm_L_103 dL_law_1371 rfl (Nat.le_of_ble_eq_true rfl) (Nat.le_of_ble_eq_true rfl) rfl (by omega) (by omega) ?_
      refine wl_iload (pc' := 1376) dL_law_1374 rfl rfl ?_
      refine wl_icmpE (tgt := 1381) dL_law_1376 (by decide) hth ?_
      refine wl_iload (pc' := 1383) dL_law_1381 rfl rfl ?_
      refine wl_if_ne (tgt := 1398) (pc' := 1386) dL_law_1383 (by decide) rfl (cdz1 E).1 (fun _ => ?_) (fun hq => absurd hq (cdz1 E).2)
      refine wl_goto (pc' := 1922) dL_law_1398 (by decide) ?_
      refine wl_sub (ls' := lL i) [2, 3, 4, 5, 6] rfl ?_
      exact k _ x1 f1 _ _ hR1 (by omega) (by omega)
theorem R_score (c0 : zCS) (x : zMX) (h : RelM c0 x.1 x.2.1 x.2.2.1) (p : Int) (hp : zin p) (b : Int) (hb : b = 0 ∨ b = 1) : zMetW q_X10_score 4 0 0 [zR 0, zI p, zI b] (wMR c0 x) (Gl cd1 (cs_score p b c0)) := by
  exact r_score c0.1 c0.2.1 c0.2.2.1 c0.2.2.2.1 c0.2.2.2.2.1 c0.2.2.2.2.2.1 c0.2.2.2.2.2.2.1 c0.2.2.2.2.2.2.2.1 c0.2.2.2.2.2.2.2.2.1 c0.2.2.2.2.2.2.2.2.2.1 c0.2.2.2.2.2.2.2.2.2.2.1 c0.2.2.2.2.2.2.2.2.2.2.2 x.1 x.2.1 x.2.2.1 x.2.2.2.1 x.2.2.2.2.1 x.2.2.2.2.2.1 x.2.2.2.2.2.2.1 x.2.2.2.2.2.2.2.1 x.2.2.2.2.2.2.2.2.1 x.2.2.2.2.2.2.2.2.2.1 x.2.2.2.2.2.2.2.2.2.2.1 x.2.2.2.2.2.2.2.2.2.2.2.1 x.2.2.2.2.2.2.2.2.2.2.2.2.1 x.2.2.2.2.2.2.2.2.2.2.2.2.2.1 x.2.2.2.2.2.2.2.2.2.2.2.2.2.2.1 x.2.2.2.2.2.2.2.2.2.2.2.2.2.2.2.1 x.2.2.2.2.2.2.2.2.2.2.2.2.2.2.2.2 h p hp b hb
set_option maxRecDepth 10000 in
theorem t_score {N : Nat} {xs : Nat → Int32} {mc ms nc ns : Nat} {i : Int} {c0 : zCS} {x : zMX} {f : Int → Int} (hN : N < 100000) (hi : 0 ≤ i ∧ i + 4 < N) (h : RelM c0 x.1 x.2.1 x.2.2.1) (hmc : nc + 3 ≤ mc) (hms : ns + 18 ≤ ms) (k : ∀ (c1 : zCS) (x1 : zMX) (f1 : Int → Int) (nc1 ns1 : Nat), RelM c1 x1.1 x1.2.1 x1.2.2.1 → nc1 ≤ nc + 3 → ns1 ≤ ns + 18 → WL N xs q_L_law 15 mc ms 0 PL 1922 (lL i) [] (LW c1 (wMR c1 x1) f1) nc1 ns1) : WL N xs q_L_law 15 mc ms 0 PL 1401 (lL i) [] (LW c0 (wMR c0 x) f) nc ns := by
  have hok := rel_ok h
  by_cases b9 : (xs (i + 2).toNat).toInt = 0
  · refine wl_aload_n (pc' := 1402) dL_law_1401 rfl rfl rfl ?_
    refine wl_aload_n (pc' := 1403) dL_law_1402 rfl rfl rfl ?_
    refine wl_iload (pc' := 1405) dL_law_1403 rfl rfl ?_
    refine wl_iconst (pc' := 1406) dL_law_1405 rfl ?_
    refine wl_iadd (pc' := 1407) dL_law_1406 rfl ?_
    refine wl_sload (pc' := 1408) dL_law_1407 rfl (by omega) (by omega) (by omega) ?_
    refine wl_aload_n (pc' := 1409) dL_law_1408 rfl rfl rfl ?_
    refine wl_iload (pc' := 1411) dL_law_1409 rfl rfl ?_
    refine wl_iconst (pc' := 1412) dL_law_1411 rfl ?_
    refine wl_iadd (pc' := 1413) dL_law_1412 rfl ?_
    refine wl_sload (pc' := 1414) dL_law_1413 rfl (by omega) (by omega) (by omega) ?_
    refine wl_if_eq (tgt := 1421) (pc' := 1417) dL_law_1414 (by decide) rfl (zin_x _) (fun _ => ?_) (fun hq => absurd b9 hq)
    refine wl_iconst (pc' := 1422) dL_law_1421 rfl ?_
    refine wl_aload_n (pc' := 1423) dL_law_1422 rfl rfl rfl ?_
    refine wl_h (pc' := 1426) (k_L_score c0 hok f ((xs (i + 1).toNat).toInt) (zin_x _) (0) (Or.inl rfl)) rfl ok_L_score rfl lm_L_194 dL_law_1423 rfl rfl rfl (Nat.le_of_ble_eq_true rfl) (Nat.le_of_ble_eq_true rfl) (by omega) (by omega) (fun cv f1 hcv => ?_)
    refine wl_istore (pc' := 1428) (ls' := (5, zI cv) :: lL i) dL_law_1426 rfl (by decide) rfl ?_
    refine wl_aload_n (pc' := 1429) dL_law_1428 rfl rfl rfl ?_
    refine wl_aload_n (pc' := 1430) dL_law_1429 rfl rfl rfl ?_
    refine wl_iload (pc' := 1432) dL_law_1430 rfl rfl ?_
    refine wl_iconst (pc' := 1433) dL_law_1432 rfl ?_
    refine wl_iadd (pc' := 1434) dL_law_1433 rfl ?_
    refine wl_sload (pc' := 1435) dL_law_1434 rfl (by omega) (by omega) (by omega) ?_
    refine wl_aload_n (pc' := 1436) dL_law_1435 rfl rfl rfl ?_
    refine wl_iload (pc' := 1438) dL_law_1436 rfl rfl ?_
    refine wl_iconst (pc' := 1439) dL_law_1438 rfl ?_
    refine wl_iadd (pc' := 1440) dL_law_1439 rfl ?_
    refine wl_sload (pc' := 1441) dL_law_1440 rfl (by omega) (by omega) (by omega) ?_
    refine wl_if_eq (tgt := 1448) (pc' := 1444) dL_law_1441 (by decide) rfl (zin_x _) (fun _ => ?_) (fun hq => absurd b9 hq)
    refine wl_iconst (pc' := 1449) dL_law_1448 rfl ?_
    refine wl_m (pc' := 1452) (R_score c0 x h ((xs (i + 1).toNat).toInt) (zin_x _) (0) (Or.inl rfl)) (sh_score ((xs (i + 1).toNat).toInt) (0) c0).v ok_X10_score lm_L_196 dL_law_1449 rfl rfl rfl rfl rfl (Nat.le_of_ble_eq_true rfl) (Nat.le_of_ble_eq_true rfl) rfl (by omega) (by omega) (fun x1 b hR1 hag => ?_)
    rcases hcv with ⟨a, ha, rfl, hf⟩ | ⟨E, hE, rfl⟩
    · obtain ⟨rfl, hth⟩ := agr_v ha hag
      refine wl_istore (pc' := 1454) (ls' := (6, zI a) :: (5, zI (0)) :: lL i) dL_law_1452 rfl (by decide) rfl ?_
      refine wl_aload_n (pc' := 1455) dL_law_1454 rfl rfl rfl ?_
      refine wl_th (pc' := 1458) lm_L_103 dL_law_1455 rfl (Nat.le_of_ble_eq_true rfl) (Nat.le_of_ble_eq_true rfl) rfl (by omega) (by omega) ?_
      refine wl_iload (pc' := 1460) dL_law_1458 rfl rfl ?_
      refine wl_icmpE (tgt := 1465) dL_law_1460 (by decide) hth ?_
      refine wl_iload (pc' := 1467) dL_law_1465 rfl rfl ?_
      refine wl_if_ne (tgt := 1482) (pc' := 1470) dL_law_1467 (by decide) rfl (by decide) (fun hq => absurd rfl hq) (fun _ => ?_)
      refine wl_aload_n (pc' := 1471) dL_law_1470 rfl rfl rfl ?_
      refine wl_iconst (pc' := 1472) dL_law_1471 rfl ?_
      refine wl_laload (pc' := 1473) (n := 1) (f := f1) dL_law_1472 rfl (LW_out _ _ _ rfl) (by decide) (by decide) (by decide) ?_
      refine wl_iload (pc' := 1475) dL_law_1473 rfl rfl ?_
      refine wl_i2lG (pc' := 1476) dL_law_1475 rfl ?_
      refine wl_lcmpE (pc' := 1477) dL_law_1476 rfl hf ?_
      refine wl_if_eq (tgt := 1482) (pc' := 1480) dL_law_1477 (by decide) rfl (by decide) (fun _ => ?_) (fun hq => absurd rfl hq)
      refine wl_goto (pc' := 1922) dL_law_1482 (by decide) ?_
      refine wl_sub (ls' := lL i) [2, 3, 4, 5, 6] rfl ?_
      exact k _ x1 f1 _ _ hR1 (by omega) (by omega)
    · obtain ⟨hth, n9, rfl⟩ := agr_x hE hag
      refine wl_istore (pc' := 1454) (ls' := (6, zI n9) :: (5, zI (cd1 E)) :: lL i) dL_law_1452 rfl (by decide) rfl ?_
      refine wl_aload_n (pc' := 1455) dL_law_1454 rfl rfl rfl ?_
      refine wl_th (pc' := 1458) lm_L_103 dL_law_1455 rfl (Nat.le_of_ble_eq_true rfl) (Nat.le_of_ble_eq_true rfl) rfl (by omega) (by omega) ?_
      refine wl_iload (pc' := 1460) dL_law_1458 rfl rfl ?_
      refine wl_icmpE (tgt := 1465) dL_law_1460 (by decide) hth ?_
      refine wl_iload (pc' := 1467) dL_law_1465 rfl rfl ?_
      refine wl_if_ne (tgt := 1482) (pc' := 1470) dL_law_1467 (by decide) rfl (cdz1 E).1 (fun _ => ?_) (fun hq => absurd hq (cdz1 E).2)
      refine wl_goto (pc' := 1922) dL_law_1482 (by decide) ?_
      refine wl_sub (ls' := lL i) [2, 3, 4, 5, 6] rfl ?_
      exact k _ x1 f1 _ _ hR1 (by omega) (by omega)
  · refine wl_aload_n (pc' := 1402) dL_law_1401 rfl rfl rfl ?_
    refine wl_aload_n (pc' := 1403) dL_law_1402 rfl rfl rfl ?_
    refine wl_iload (pc' := 1405) dL_law_1403 rfl rfl ?_
    refine wl_iconst (pc' := 1406) dL_law_1405 rfl ?_
    refine wl_iadd (pc' := 1407) dL_law_1406 rfl ?_
    refine wl_sload (pc' := 1408) dL_law_1407 rfl (by omega) (by omega) (by omega) ?_
    refine wl_aload_n (pc' := 1409) dL_law_1408 rfl rfl rfl ?_
    refine wl_iload (pc' := 1411) dL_law_1409 rfl rfl ?_
    refine wl_iconst (pc' := 1412) dL_law_1411 rfl ?_
    refine wl_iadd (pc' := 1413) dL_law_1412 rfl ?_
    refine wl_sload (pc' := 1414) dL_law_1413 rfl (by omega) (by omega) (by omega) ?_
    refine wl_if_eq (tgt := 1421) (pc' := 1417) dL_law_1414 (by decide) rfl (zin_x _) (fun hq => absurd hq b9) (fun _ => ?_)
    refine wl_iconst (pc' := 1418) dL_law_1417 rfl ?_
    refine wl_goto (pc' := 1422) dL_law_1418 (by decide) ?_
    refine wl_aload_n (pc' := 1423) dL_law_1422 rfl rfl rfl ?_
    refine wl_h (pc' := 1426) (k_L_score c0 hok f ((xs (i + 1).toNat).toInt) (zin_x _) (1) (Or.inr rfl)) rfl ok_L_score rfl lm_L_194 dL_law_1423 rfl rfl rfl (Nat.le_of_ble_eq_true rfl) (Nat.le_of_ble_eq_true rfl) (by omega) (by omega) (fun cv f1 hcv => ?_)
    refine wl_istore (pc' := 1428) (ls' := (5, zI cv) :: lL i) dL_law_1426 rfl (by decide) rfl ?_
    refine wl_aload_n (pc' := 1429) dL_law_1428 rfl rfl rfl ?_
    refine wl_aload_n (pc' := 1430) dL_law_1429 rfl rfl rfl ?_
    refine wl_iload (pc' := 1432) dL_law_1430 rfl rfl ?_
    refine wl_iconst (pc' := 1433) dL_law_1432 rfl ?_
    refine wl_iadd (pc' := 1434) dL_law_1433 rfl ?_
    refine wl_sload (pc' := 1435) dL_law_1434 rfl (by omega) (by omega) (by omega) ?_
    refine wl_aload_n (pc' := 1436) dL_law_1435 rfl rfl rfl ?_
    refine wl_iload (pc' := 1438) dL_law_1436 rfl rfl ?_
    refine wl_iconst (pc' := 1439) dL_law_1438 rfl ?_
    refine wl_iadd (pc' := 1440) dL_law_1439 rfl ?_
    refine wl_sload (pc' := 1441) dL_law_1440 rfl (by omega) (by omega) (by omega) ?_
    refine wl_if_eq (tgt := 1448) (pc' := 1444) dL_law_1441 (by decide) rfl (zin_x _) (fun hq => absurd hq b9) (fun _ => ?_)
    refine wl_iconst (pc' := 1445) dL_law_1444 rfl ?_
    refine wl_goto (pc' := 1449) dL_law_1445 (by decide) ?_
    refine wl_m (pc' := 1452) (R_score c0 x h ((xs (i + 1).toNat).toInt) (zin_x _) (1) (Or.inr rfl)) (sh_score ((xs (i + 1).toNat).toInt) (1) c0).v ok_X10_score lm_L_196 dL_law_1449 rfl rfl rfl rfl rfl (Nat.le_of_ble_eq_true rfl) (Nat.le_of_ble_eq_true rfl) rfl (by omega) (by omega) (fun x1 b hR1 hag => ?_)
    rcases hcv with ⟨a, ha, rfl, hf⟩ | ⟨E, hE, rfl⟩
    · obtain ⟨rfl, hth⟩ := agr_v ha hag
      refine wl_istore (pc' := 1454) (ls' := (6, zI a) :: (5, zI (0)) :: lL i) dL_law_1452 rfl (by decide) rfl ?_
      refine wl_aload_n (pc' := 1455) dL_law_1454 rfl rfl rfl ?_
      refine wl_th (pc' := 1458) lm_L_103 dL_law_1455 rfl (Nat.le_of_ble_eq_true rfl) (Nat.le_of_ble_eq_true rfl) rfl (by omega) (by omega) ?_
      refine wl_iload (pc' := 1460) dL_law_1458 rfl rfl ?_
      refine wl_icmpE (tgt := 1465) dL_law_1460 (by decide) hth ?_
      refine wl_iload (pc' := 1467) dL_law_1465 rfl rfl ?_
      refine wl_if_ne (tgt := 1482) (pc' := 1470) dL_law_1467 (by decide) rfl (by decide) (fun hq => absurd rfl hq) (fun _ => ?_)
      refine wl_aload_n (pc' := 1471) dL_law_1470 rfl rfl rfl ?_
      refine wl_iconst (pc' := 1472) dL_law_1471 rfl ?_
      refine wl_laload (pc' := 1473) (n := 1) (f := f1) dL_law_1472 rfl (LW_out _ _ _ rfl) (by decide) (by decide) (by decide) ?_
      refine wl_iload (pc' := 1475) dL_law_1473 rfl rfl ?_
      refine wl_i2lG (pc' := 1476) dL_law_1475 rfl ?_
      refine wl_lcmpE (pc' := 1477) dL_law_1476 rfl hf ?_
      refine wl_if_eq (tgt := 1482) (pc' := 1480) dL_law_1477 (by decide) rfl (by decide) (fun _ => ?_) (fun hq => absurd rfl hq)
      refine wl_goto (pc' := 1922) dL_law_1482 (by decide) ?_
      refine wl_sub (ls' := lL i) [2, 3, 4, 5, 6] rfl ?_
      exact k _ x1 f1 _ _ hR1 (by omega) (by omega)
    · obtain ⟨hth, n9, rfl⟩ := agr_x hE hag
      refine wl_istore (pc' := 1454) (ls' := (6, zI n9) :: (5, zI (cd1 E)) :: lL i) dL_law_1452 rfl (by decide) rfl ?_
      refine wl_aload_n (pc' := 1455) dL_law_1454 rfl rfl rfl ?_
      refine wl_th (pc' := 1458) lm_L_103 dL_law_1455 rfl (Nat.le_of_ble_eq_true rfl) (Nat.le_of_ble_eq_true rfl) rfl (by omega) (by omega) ?_
      refine wl_iload (pc' := 1460) dL_law_1458 rfl rfl ?_
      refine wl_icmpE (tgt := 1465) dL_law_1460 (by decide) hth ?_
      refine wl_iload (pc' := 1467) dL_law_1465 rfl rfl ?_
      refine wl_if_ne (tgt := 1482) (pc' := 1470) dL_law_1467 (by decide) rfl (cdz1 E).1 (fun _ => ?_) (fun hq => absurd hq (cdz1 E).2)
      refine wl_goto (pc' := 1922) dL_law_1482 (by decide) ?_
      refine wl_sub (ls' := lL i) [2, 3, 4, 5, 6] rfl ?_
      exact k _ x1 f1 _ _ hR1 (by omega) (by omega)
theorem sh_findKey  (c0 : zCS) : ShI [] (cs_findKey c0) := by
  obtain ⟨t, nm, s, D, H, ol, ct, k, y, si, fl, wi⟩ := c0
  unfold cs_findKey
  repeat' (first | exact sh_i | apply sh_ite)
theorem R_findKey (c0 : zCS) (x : zMX) (h : RelM c0 x.1 x.2.1 x.2.2.1)  : zMetW q_X10_findKey 5 0 0 [zR 0] (wMR c0 x) (Gl cd1 (cs_findKey c0)) := by
  exact r_findKey c0.1 c0.2.1 c0.2.2.1 c0.2.2.2.1 c0.2.2.2.2.1 c0.2.2.2.2.2.1 c0.2.2.2.2.2.2.1 c0.2.2.2.2.2.2.2.1 c0.2.2.2.2.2.2.2.2.1 c0.2.2.2.2.2.2.2.2.2.1 c0.2.2.2.2.2.2.2.2.2.2.1 c0.2.2.2.2.2.2.2.2.2.2.2 x.1 x.2.1 x.2.2.1 x.2.2.2.1 x.2.2.2.2.1 x.2.2.2.2.2.1 x.2.2.2.2.2.2.1 x.2.2.2.2.2.2.2.1 x.2.2.2.2.2.2.2.2.1 x.2.2.2.2.2.2.2.2.2.1 x.2.2.2.2.2.2.2.2.2.2.1 x.2.2.2.2.2.2.2.2.2.2.2.1 x.2.2.2.2.2.2.2.2.2.2.2.2.1 x.2.2.2.2.2.2.2.2.2.2.2.2.2.1 x.2.2.2.2.2.2.2.2.2.2.2.2.2.2.1 x.2.2.2.2.2.2.2.2.2.2.2.2.2.2.2.1 x.2.2.2.2.2.2.2.2.2.2.2.2.2.2.2.2 h
set_option maxRecDepth 10000 in
theorem t_findKey {N : Nat} {xs : Nat → Int32} {mc ms nc ns : Nat} {i : Int} {c0 : zCS} {x : zMX} {f : Int → Int} (hN : N < 100000) (hi : 0 ≤ i ∧ i + 4 < N) (h : RelM c0 x.1 x.2.1 x.2.2.1) (hmc : nc + 3 ≤ mc) (hms : ns + 18 ≤ ms) (k : ∀ (c1 : zCS) (x1 : zMX) (f1 : Int → Int) (nc1 ns1 : Nat), RelM c1 x1.1 x1.2.1 x1.2.2.1 → nc1 ≤ nc + 3 → ns1 ≤ ns + 18 → WL N xs q_L_law 15 mc ms 0 PL 1922 (lL i) [] (LW c1 (wMR c1 x1) f1) nc1 ns1) : WL N xs q_L_law 15 mc ms 0 PL 1485 (lL i) [] (LW c0 (wMR c0 x) f) nc ns := by
  have hok := rel_ok h
  obtain ⟨a, ha⟩ : ∃ a, (cs_findKey c0).1 = .inl (some (zI a)) := by
    rcases (sh_findKey  c0) with h9 | ⟨E, hE, -⟩
    · exact h9
    · exact nomatch hE
  refine wl_aload_n (pc' := 1486) dL_law_1485 rfl rfl rfl ?_
  refine wl_x (pc' := 1489) (k_X9_findKey c0.1 c0.2.1 c0.2.2.1 c0.2.2.2.1 c0.2.2.2.2.1 c0.2.2.2.2.2.1 c0.2.2.2.2.2.2.1 c0.2.2.2.2.2.2.2.1 c0.2.2.2.2.2.2.2.2.1 c0.2.2.2.2.2.2.2.2.2.1 c0.2.2.2.2.2.2.2.2.2.2.1 c0.2.2.2.2.2.2.2.2.2.2.2 hok) ha rfl ok_X9_findKey lm_L_197 dL_law_1486 rfl rfl rfl rfl rfl (Nat.le_of_ble_eq_true rfl) (Nat.le_of_ble_eq_true rfl) rfl (by omega) (by omega) ?_
  refine wl_aload_n (pc' := 1490) dL_law_1489 rfl rfl rfl ?_
  refine wl_m (pc' := 1493) (R_findKey c0 x h) (sh_findKey  c0).v ok_X10_findKey lm_L_200 dL_law_1490 rfl rfl rfl rfl rfl (Nat.le_of_ble_eq_true rfl) (Nat.le_of_ble_eq_true rfl) rfl (by omega) (by omega) (fun x1 b hR1 hag => ?_)
  obtain ⟨rfl, -⟩ := agr_v ha hag
  refine wl_icmpE (tgt := 1922) dL_law_1493 (by decide) rfl ?_
  exact k _ x1 f _ _ hR1 (by omega) (by omega)
theorem R_transpose (c0 : zCS) (x : zMX) (h : RelM c0 x.1 x.2.1 x.2.2.1) (se : Int) (hse : zin se) : zMetW q_X10_transpose 4 0 0 [zR 0, zI se] (wMR c0 x) (Gl cd1 (cs_transpose se c0)) := by
  exact r_transpose c0.1 c0.2.1 c0.2.2.1 c0.2.2.2.1 c0.2.2.2.2.1 c0.2.2.2.2.2.1 c0.2.2.2.2.2.2.1 c0.2.2.2.2.2.2.2.1 c0.2.2.2.2.2.2.2.2.1 c0.2.2.2.2.2.2.2.2.2.1 c0.2.2.2.2.2.2.2.2.2.2.1 c0.2.2.2.2.2.2.2.2.2.2.2 x.1 x.2.1 x.2.2.1 x.2.2.2.1 x.2.2.2.2.1 x.2.2.2.2.2.1 x.2.2.2.2.2.2.1 x.2.2.2.2.2.2.2.1 x.2.2.2.2.2.2.2.2.1 x.2.2.2.2.2.2.2.2.2.1 x.2.2.2.2.2.2.2.2.2.2.1 x.2.2.2.2.2.2.2.2.2.2.2.1 x.2.2.2.2.2.2.2.2.2.2.2.2.1 x.2.2.2.2.2.2.2.2.2.2.2.2.2.1 x.2.2.2.2.2.2.2.2.2.2.2.2.2.2.1 x.2.2.2.2.2.2.2.2.2.2.2.2.2.2.2.1 x.2.2.2.2.2.2.2.2.2.2.2.2.2.2.2.2 h se hse
set_option maxRecDepth 10000 in
theorem t_transpose {N : Nat} {xs : Nat → Int32} {mc ms nc ns : Nat} {i : Int} {c0 : zCS} {x : zMX} {f : Int → Int} (hN : N < 100000) (hi : 0 ≤ i ∧ i + 4 < N) (h : RelM c0 x.1 x.2.1 x.2.2.1) (hmc : nc + 3 ≤ mc) (hms : ns + 18 ≤ ms) (k : ∀ (c1 : zCS) (x1 : zMX) (f1 : Int → Int) (nc1 ns1 : Nat), RelM c1 x1.1 x1.2.1 x1.2.2.1 → nc1 ≤ nc + 3 → ns1 ≤ ns + 18 → WL N xs q_L_law 15 mc ms 0 PL 1922 (lL i) [] (LW c1 (wMR c1 x1) f1) nc1 ns1) : WL N xs q_L_law 15 mc ms 0 PL 1498 (lL i) [] (LW c0 (wMR c0 x) f) nc ns := by
  have hok := rel_ok h
  refine wl_aload_n (pc' := 1499) dL_law_1498 rfl rfl rfl ?_
  refine wl_aload_n (pc' := 1500) dL_law_1499 rfl rfl rfl ?_
  refine wl_iload (pc' := 1502) dL_law_1500 rfl rfl ?_
  refine wl_iconst (pc' := 1503) dL_law_1502 rfl ?_
  refine wl_iadd (pc' := 1504) dL_law_1503 rfl ?_
  refine wl_sload (pc' := 1505) dL_law_1504 rfl (by omega) (by omega) (by omega) ?_
  refine wl_aload_n (pc' := 1506) dL_law_1505 rfl rfl rfl ?_
  refine wl_h (pc' := 1509) (k_L_transpose c0 hok f ((xs (i + 1).toNat).toInt) (zin_x _)) rfl ok_L_transpose rfl lm_L_201 dL_law_1506 rfl rfl rfl (Nat.le_of_ble_eq_true rfl) (Nat.le_of_ble_eq_true rfl) (by omega) (by omega) (fun cv f1 hcv => ?_)
  refine wl_istore (pc' := 1511) (ls' := (5, zI cv) :: lL i) dL_law_1509 rfl (by decide) rfl ?_
  refine wl_aload_n (pc' := 1512) dL_law_1511 rfl rfl rfl ?_
  refine wl_aload_n (pc' := 1513) dL_law_1512 rfl rfl rfl ?_
  refine wl_iload (pc' := 1515) dL_law_1513 rfl rfl ?_
  refine wl_iconst (pc' := 1516) dL_law_1515 rfl ?_
  refine wl_iadd (pc' := 1517) dL_law_1516 rfl ?_
  refine wl_sload (pc' := 1518) dL_law_1517 rfl (by omega) (by omega) (by omega) ?_
  refine wl_m (pc' := 1521) (R_transpose c0 x h ((xs (i + 1).toNat).toInt) (zin_x _)) (sh_transpose ((xs (i + 1).toNat).toInt) c0).v ok_X10_transpose lm_L_203 dL_law_1518 rfl rfl rfl rfl rfl (Nat.le_of_ble_eq_true rfl) (Nat.le_of_ble_eq_true rfl) rfl (by omega) (by omega) (fun x1 b hR1 hag => ?_)
  rcases hcv with ⟨a, ha, rfl, hf⟩ | ⟨E, hE, rfl⟩
  · obtain ⟨rfl, hth⟩ := agr_v ha hag
    refine wl_istore (pc' := 1523) (ls' := (6, zI a) :: (5, zI (0)) :: lL i) dL_law_1521 rfl (by decide) rfl ?_
    refine wl_aload_n (pc' := 1524) dL_law_1523 rfl rfl rfl ?_
    refine wl_th (pc' := 1527) lm_L_103 dL_law_1524 rfl (Nat.le_of_ble_eq_true rfl) (Nat.le_of_ble_eq_true rfl) rfl (by omega) (by omega) ?_
    refine wl_iload (pc' := 1529) dL_law_1527 rfl rfl ?_
    refine wl_icmpE (tgt := 1534) dL_law_1529 (by decide) hth ?_
    refine wl_iload (pc' := 1536) dL_law_1534 rfl rfl ?_
    refine wl_if_ne (tgt := 1551) (pc' := 1539) dL_law_1536 (by decide) rfl (by decide) (fun hq => absurd rfl hq) (fun _ => ?_)
    refine wl_aload_n (pc' := 1540) dL_law_1539 rfl rfl rfl ?_
    refine wl_iconst (pc' := 1541) dL_law_1540 rfl ?_
    refine wl_laload (pc' := 1542) (n := 1) (f := f1) dL_law_1541 rfl (LW_out _ _ _ rfl) (by decide) (by decide) (by decide) ?_
    refine wl_iload (pc' := 1544) dL_law_1542 rfl rfl ?_
    refine wl_i2lG (pc' := 1545) dL_law_1544 rfl ?_
    refine wl_lcmpE (pc' := 1546) dL_law_1545 rfl hf ?_
    refine wl_if_eq (tgt := 1551) (pc' := 1549) dL_law_1546 (by decide) rfl (by decide) (fun _ => ?_) (fun hq => absurd rfl hq)
    refine wl_goto (pc' := 1922) dL_law_1551 (by decide) ?_
    refine wl_sub (ls' := lL i) [2, 3, 4, 5, 6] rfl ?_
    exact k _ x1 f1 _ _ hR1 (by omega) (by omega)
  · obtain ⟨hth, n9, rfl⟩ := agr_x hE hag
    refine wl_istore (pc' := 1523) (ls' := (6, zI n9) :: (5, zI (cd1 E)) :: lL i) dL_law_1521 rfl (by decide) rfl ?_
    refine wl_aload_n (pc' := 1524) dL_law_1523 rfl rfl rfl ?_
    refine wl_th (pc' := 1527) lm_L_103 dL_law_1524 rfl (Nat.le_of_ble_eq_true rfl) (Nat.le_of_ble_eq_true rfl) rfl (by omega) (by omega) ?_
    refine wl_iload (pc' := 1529) dL_law_1527 rfl rfl ?_
    refine wl_icmpE (tgt := 1534) dL_law_1529 (by decide) hth ?_
    refine wl_iload (pc' := 1536) dL_law_1534 rfl rfl ?_
    refine wl_if_ne (tgt := 1551) (pc' := 1539) dL_law_1536 (by decide) rfl (cdz1 E).1 (fun _ => ?_) (fun hq => absurd hq (cdz1 E).2)
    refine wl_goto (pc' := 1922) dL_law_1551 (by decide) ?_
    refine wl_sub (ls' := lL i) [2, 3, 4, 5, 6] rfl ?_
    exact k _ x1 f1 _ _ hR1 (by omega) (by omega)
theorem sh_respell  (c0 : zCS) : ShI [] (cs_respell c0) := by
  obtain ⟨t, nm, s, D, H, ol, ct, k, y, si, fl, wi⟩ := c0
  unfold cs_respell
  repeat' (first | exact sh_i | apply sh_ite)
theorem R_respell (c0 : zCS) (x : zMX) (h : RelM c0 x.1 x.2.1 x.2.2.1)  : zMetW q_X10_respell 4 0 0 [zR 0] (wMR c0 x) (Gl cd1 (cs_respell c0)) := by
  exact r_respell c0.1 c0.2.1 c0.2.2.1 c0.2.2.2.1 c0.2.2.2.2.1 c0.2.2.2.2.2.1 c0.2.2.2.2.2.2.1 c0.2.2.2.2.2.2.2.1 c0.2.2.2.2.2.2.2.2.1 c0.2.2.2.2.2.2.2.2.2.1 c0.2.2.2.2.2.2.2.2.2.2.1 c0.2.2.2.2.2.2.2.2.2.2.2 x.1 x.2.1 x.2.2.1 x.2.2.2.1 x.2.2.2.2.1 x.2.2.2.2.2.1 x.2.2.2.2.2.2.1 x.2.2.2.2.2.2.2.1 x.2.2.2.2.2.2.2.2.1 x.2.2.2.2.2.2.2.2.2.1 x.2.2.2.2.2.2.2.2.2.2.1 x.2.2.2.2.2.2.2.2.2.2.2.1 x.2.2.2.2.2.2.2.2.2.2.2.2.1 x.2.2.2.2.2.2.2.2.2.2.2.2.2.1 x.2.2.2.2.2.2.2.2.2.2.2.2.2.2.1 x.2.2.2.2.2.2.2.2.2.2.2.2.2.2.2.1 x.2.2.2.2.2.2.2.2.2.2.2.2.2.2.2.2 h
set_option maxRecDepth 10000 in
theorem t_respell {N : Nat} {xs : Nat → Int32} {mc ms nc ns : Nat} {i : Int} {c0 : zCS} {x : zMX} {f : Int → Int} (hN : N < 100000) (hi : 0 ≤ i ∧ i + 4 < N) (h : RelM c0 x.1 x.2.1 x.2.2.1) (hmc : nc + 3 ≤ mc) (hms : ns + 18 ≤ ms) (k : ∀ (c1 : zCS) (x1 : zMX) (f1 : Int → Int) (nc1 ns1 : Nat), RelM c1 x1.1 x1.2.1 x1.2.2.1 → nc1 ≤ nc + 3 → ns1 ≤ ns + 18 → WL N xs q_L_law 15 mc ms 0 PL 1922 (lL i) [] (LW c1 (wMR c1 x1) f1) nc1 ns1) : WL N xs q_L_law 15 mc ms 0 PL 1554 (lL i) [] (LW c0 (wMR c0 x) f) nc ns := by
  have hok := rel_ok h
  obtain ⟨a, ha⟩ : ∃ a, (cs_respell c0).1 = .inl (some (zI a)) := by
    rcases (sh_respell  c0) with h9 | ⟨E, hE, -⟩
    · exact h9
    · exact nomatch hE
  refine wl_aload_n (pc' := 1555) dL_law_1554 rfl rfl rfl ?_
  refine wl_x (pc' := 1558) (k_X9_respell c0.1 c0.2.1 c0.2.2.1 c0.2.2.2.1 c0.2.2.2.2.1 c0.2.2.2.2.2.1 c0.2.2.2.2.2.2.1 c0.2.2.2.2.2.2.2.1 c0.2.2.2.2.2.2.2.2.1 c0.2.2.2.2.2.2.2.2.2.1 c0.2.2.2.2.2.2.2.2.2.2.1 c0.2.2.2.2.2.2.2.2.2.2.2 hok) ha rfl ok_X9_respell lm_L_204 dL_law_1555 rfl rfl rfl rfl rfl (Nat.le_of_ble_eq_true rfl) (Nat.le_of_ble_eq_true rfl) rfl (by omega) (by omega) ?_
  refine wl_aload_n (pc' := 1559) dL_law_1558 rfl rfl rfl ?_
  refine wl_m (pc' := 1562) (R_respell c0 x h) (sh_respell  c0).v ok_X10_respell lm_L_207 dL_law_1559 rfl rfl rfl rfl rfl (Nat.le_of_ble_eq_true rfl) (Nat.le_of_ble_eq_true rfl) rfl (by omega) (by omega) (fun x1 b hR1 hag => ?_)
  obtain ⟨rfl, -⟩ := agr_v ha hag
  refine wl_icmpE (tgt := 1922) dL_law_1562 (by decide) rfl ?_
  exact k _ x1 f _ _ hR1 (by omega) (by omega)
theorem R_difficulty (c0 : zCS) (x : zMX) (h : RelM c0 x.1 x.2.1 x.2.2.1) (f : Int) (hf : zin f) : zMetW q_X10_difficulty 3 0 0 [zR 0, zI f] (wMR c0 x) (Gl cd1 (cs_difficulty f c0)) := by
  exact r_difficulty c0.1 c0.2.1 c0.2.2.1 c0.2.2.2.1 c0.2.2.2.2.1 c0.2.2.2.2.2.1 c0.2.2.2.2.2.2.1 c0.2.2.2.2.2.2.2.1 c0.2.2.2.2.2.2.2.2.1 c0.2.2.2.2.2.2.2.2.2.1 c0.2.2.2.2.2.2.2.2.2.2.1 c0.2.2.2.2.2.2.2.2.2.2.2 x.1 x.2.1 x.2.2.1 x.2.2.2.1 x.2.2.2.2.1 x.2.2.2.2.2.1 x.2.2.2.2.2.2.1 x.2.2.2.2.2.2.2.1 x.2.2.2.2.2.2.2.2.1 x.2.2.2.2.2.2.2.2.2.1 x.2.2.2.2.2.2.2.2.2.2.1 x.2.2.2.2.2.2.2.2.2.2.2.1 x.2.2.2.2.2.2.2.2.2.2.2.2.1 x.2.2.2.2.2.2.2.2.2.2.2.2.2.1 x.2.2.2.2.2.2.2.2.2.2.2.2.2.2.1 x.2.2.2.2.2.2.2.2.2.2.2.2.2.2.2.1 x.2.2.2.2.2.2.2.2.2.2.2.2.2.2.2.2 h f hf
set_option maxRecDepth 10000 in
theorem t_difficulty {N : Nat} {xs : Nat → Int32} {mc ms nc ns : Nat} {i : Int} {c0 : zCS} {x : zMX} {f : Int → Int} (hN : N < 100000) (hi : 0 ≤ i ∧ i + 4 < N) (h : RelM c0 x.1 x.2.1 x.2.2.1) (hmc : nc + 3 ≤ mc) (hms : ns + 18 ≤ ms) (k : ∀ (c1 : zCS) (x1 : zMX) (f1 : Int → Int) (nc1 ns1 : Nat), RelM c1 x1.1 x1.2.1 x1.2.2.1 → nc1 ≤ nc + 3 → ns1 ≤ ns + 18 → WL N xs q_L_law 15 mc ms 0 PL 1922 (lL i) [] (LW c1 (wMR c1 x1) f1) nc1 ns1) : WL N xs q_L_law 15 mc ms 0 PL 1567 (lL i) [] (LW c0 (wMR c0 x) f) nc ns := by
  have hok := rel_ok h
  refine wl_aload_n (pc' := 1568) dL_law_1567 rfl rfl rfl ?_
  refine wl_aload_n (pc' := 1569) dL_law_1568 rfl rfl rfl ?_
  refine wl_iload (pc' := 1571) dL_law_1569 rfl rfl ?_
  refine wl_iconst (pc' := 1572) dL_law_1571 rfl ?_
  refine wl_iadd (pc' := 1573) dL_law_1572 rfl ?_
  refine wl_sload (pc' := 1574) dL_law_1573 rfl (by omega) (by omega) (by omega) ?_
  refine wl_aload_n (pc' := 1575) dL_law_1574 rfl rfl rfl ?_
  refine wl_h (pc' := 1578) (k_L_difficulty c0 hok f ((xs (i + 1).toNat).toInt) (zin_x _)) rfl ok_L_difficulty rfl lm_L_208 dL_law_1575 rfl rfl rfl (Nat.le_of_ble_eq_true rfl) (Nat.le_of_ble_eq_true rfl) (by omega) (by omega) (fun cv f1 hcv => ?_)
  refine wl_istore (pc' := 1580) (ls' := (5, zI cv) :: lL i) dL_law_1578 rfl (by decide) rfl ?_
  refine wl_aload_n (pc' := 1581) dL_law_1580 rfl rfl rfl ?_
  refine wl_aload_n (pc' := 1582) dL_law_1581 rfl rfl rfl ?_
  refine wl_iload (pc' := 1584) dL_law_1582 rfl rfl ?_
  refine wl_iconst (pc' := 1585) dL_law_1584 rfl ?_
  refine wl_iadd (pc' := 1586) dL_law_1585 rfl ?_
  refine wl_sload (pc' := 1587) dL_law_1586 rfl (by omega) (by omega) (by omega) ?_
  refine wl_m (pc' := 1590) (R_difficulty c0 x h ((xs (i + 1).toNat).toInt) (zin_x _)) (sh_difficulty ((xs (i + 1).toNat).toInt) c0).v ok_X10_difficulty lm_L_210 dL_law_1587 rfl rfl rfl rfl rfl (Nat.le_of_ble_eq_true rfl) (Nat.le_of_ble_eq_true rfl) rfl (by omega) (by omega) (fun x1 b hR1 hag => ?_)
  rcases hcv with ⟨a, ha, rfl, hf⟩ | ⟨E, hE, rfl⟩
  · obtain ⟨rfl, hth⟩ := agr_v ha hag
    refine wl_istore (pc' := 1592) (ls' := (6, zI a) :: (5, zI (0)) :: lL i) dL_law_1590 rfl (by decide) rfl ?_
    refine wl_aload_n (pc' := 1593) dL_law_1592 rfl rfl rfl ?_
    refine wl_th (pc' := 1596) lm_L_103 dL_law_1593 rfl (Nat.le_of_ble_eq_true rfl) (Nat.le_of_ble_eq_true rfl) rfl (by omega) (by omega) ?_
    refine wl_iload (pc' := 1598) dL_law_1596 rfl rfl ?_
    refine wl_icmpE (tgt := 1603) dL_law_1598 (by decide) hth ?_
    refine wl_iload (pc' := 1605) dL_law_1603 rfl rfl ?_
    refine wl_if_ne (tgt := 1620) (pc' := 1608) dL_law_1605 (by decide) rfl (by decide) (fun hq => absurd rfl hq) (fun _ => ?_)
    refine wl_aload_n (pc' := 1609) dL_law_1608 rfl rfl rfl ?_
    refine wl_iconst (pc' := 1610) dL_law_1609 rfl ?_
    refine wl_laload (pc' := 1611) (n := 1) (f := f1) dL_law_1610 rfl (LW_out _ _ _ rfl) (by decide) (by decide) (by decide) ?_
    refine wl_iload (pc' := 1613) dL_law_1611 rfl rfl ?_
    refine wl_i2lG (pc' := 1614) dL_law_1613 rfl ?_
    refine wl_lcmpE (pc' := 1615) dL_law_1614 rfl hf ?_
    refine wl_if_eq (tgt := 1620) (pc' := 1618) dL_law_1615 (by decide) rfl (by decide) (fun _ => ?_) (fun hq => absurd rfl hq)
    refine wl_goto (pc' := 1922) dL_law_1620 (by decide) ?_
    refine wl_sub (ls' := lL i) [2, 3, 4, 5, 6] rfl ?_
    exact k _ x1 f1 _ _ hR1 (by omega) (by omega)
  · obtain ⟨hth, n9, rfl⟩ := agr_x hE hag
    refine wl_istore (pc' := 1592) (ls' := (6, zI n9) :: (5, zI (cd1 E)) :: lL i) dL_law_1590 rfl (by decide) rfl ?_
    refine wl_aload_n (pc' := 1593) dL_law_1592 rfl rfl rfl ?_
    refine wl_th (pc' := 1596) lm_L_103 dL_law_1593 rfl (Nat.le_of_ble_eq_true rfl) (Nat.le_of_ble_eq_true rfl) rfl (by omega) (by omega) ?_
    refine wl_iload (pc' := 1598) dL_law_1596 rfl rfl ?_
    refine wl_icmpE (tgt := 1603) dL_law_1598 (by decide) hth ?_
    refine wl_iload (pc' := 1605) dL_law_1603 rfl rfl ?_
    refine wl_if_ne (tgt := 1620) (pc' := 1608) dL_law_1605 (by decide) rfl (cdz1 E).1 (fun _ => ?_) (fun hq => absurd hq (cdz1 E).2)
    refine wl_goto (pc' := 1922) dL_law_1620 (by decide) ?_
    refine wl_sub (ls' := lL i) [2, 3, 4, 5, 6] rfl ?_
    exact k _ x1 f1 _ _ hR1 (by omega) (by omega)
theorem sh_bestCapo  (c0 : zCS) : ShI [] (cs_bestCapo c0) := by
  obtain ⟨t, nm, s, D, H, ol, ct, k, y, si, fl, wi⟩ := c0
  unfold cs_bestCapo
  repeat' (first | exact sh_i | apply sh_ite)
theorem R_bestCapo (c0 : zCS) (x : zMX) (h : RelM c0 x.1 x.2.1 x.2.2.1)  : zMetW q_X10_bestCapo 3 0 0 [zR 0] (wMR c0 x) (Gl cd1 (cs_bestCapo c0)) := by
  exact r_bestCapo c0.1 c0.2.1 c0.2.2.1 c0.2.2.2.1 c0.2.2.2.2.1 c0.2.2.2.2.2.1 c0.2.2.2.2.2.2.1 c0.2.2.2.2.2.2.2.1 c0.2.2.2.2.2.2.2.2.1 c0.2.2.2.2.2.2.2.2.2.1 c0.2.2.2.2.2.2.2.2.2.2.1 c0.2.2.2.2.2.2.2.2.2.2.2 x.1 x.2.1 x.2.2.1 x.2.2.2.1 x.2.2.2.2.1 x.2.2.2.2.2.1 x.2.2.2.2.2.2.1 x.2.2.2.2.2.2.2.1 x.2.2.2.2.2.2.2.2.1 x.2.2.2.2.2.2.2.2.2.1 x.2.2.2.2.2.2.2.2.2.2.1 x.2.2.2.2.2.2.2.2.2.2.2.1 x.2.2.2.2.2.2.2.2.2.2.2.2.1 x.2.2.2.2.2.2.2.2.2.2.2.2.2.1 x.2.2.2.2.2.2.2.2.2.2.2.2.2.2.1 x.2.2.2.2.2.2.2.2.2.2.2.2.2.2.2.1 x.2.2.2.2.2.2.2.2.2.2.2.2.2.2.2.2 h
set_option maxRecDepth 10000 in
theorem t_bestCapo {N : Nat} {xs : Nat → Int32} {mc ms nc ns : Nat} {i : Int} {c0 : zCS} {x : zMX} {f : Int → Int} (hN : N < 100000) (hi : 0 ≤ i ∧ i + 4 < N) (h : RelM c0 x.1 x.2.1 x.2.2.1) (hmc : nc + 3 ≤ mc) (hms : ns + 18 ≤ ms) (k : ∀ (c1 : zCS) (x1 : zMX) (f1 : Int → Int) (nc1 ns1 : Nat), RelM c1 x1.1 x1.2.1 x1.2.2.1 → nc1 ≤ nc + 3 → ns1 ≤ ns + 18 → WL N xs q_L_law 15 mc ms 0 PL 1922 (lL i) [] (LW c1 (wMR c1 x1) f1) nc1 ns1) : WL N xs q_L_law 15 mc ms 0 PL 1623 (lL i) [] (LW c0 (wMR c0 x) f) nc ns := by
  have hok := rel_ok h
  obtain ⟨a, ha⟩ : ∃ a, (cs_bestCapo c0).1 = .inl (some (zI a)) := by
    rcases (sh_bestCapo  c0) with h9 | ⟨E, hE, -⟩
    · exact h9
    · exact nomatch hE
  refine wl_aload_n (pc' := 1624) dL_law_1623 rfl rfl rfl ?_
  refine wl_x (pc' := 1627) (k_X9_bestCapo c0.1 c0.2.1 c0.2.2.1 c0.2.2.2.1 c0.2.2.2.2.1 c0.2.2.2.2.2.1 c0.2.2.2.2.2.2.1 c0.2.2.2.2.2.2.2.1 c0.2.2.2.2.2.2.2.2.1 c0.2.2.2.2.2.2.2.2.2.1 c0.2.2.2.2.2.2.2.2.2.2.1 c0.2.2.2.2.2.2.2.2.2.2.2 hok) ha rfl ok_X9_bestCapo lm_L_211 dL_law_1624 rfl rfl rfl rfl rfl (Nat.le_of_ble_eq_true rfl) (Nat.le_of_ble_eq_true rfl) rfl (by omega) (by omega) ?_
  refine wl_aload_n (pc' := 1628) dL_law_1627 rfl rfl rfl ?_
  refine wl_m (pc' := 1631) (R_bestCapo c0 x h) (sh_bestCapo  c0).v ok_X10_bestCapo lm_L_214 dL_law_1628 rfl rfl rfl rfl rfl (Nat.le_of_ble_eq_true rfl) (Nat.le_of_ble_eq_true rfl) rfl (by omega) (by omega) (fun x1 b hR1 hag => ?_)
  obtain ⟨rfl, -⟩ := agr_v ha hag
  refine wl_icmpE (tgt := 1922) dL_law_1631 (by decide) rfl ?_
  exact k _ x1 f _ _ hR1 (by omega) (by omega)
theorem R_pairs (c0 : zCS) (x : zMX) (h : RelM c0 x.1 x.2.1 x.2.2.1) (l : Int) (hl : zin l) : zMetW q_X10_pairs 7 0 0 [zR 0, zI l] (wMR c0 x) (Gl cd1 (cs_pairs l c0)) := by
  exact r_pairs c0.1 c0.2.1 c0.2.2.1 c0.2.2.2.1 c0.2.2.2.2.1 c0.2.2.2.2.2.1 c0.2.2.2.2.2.2.1 c0.2.2.2.2.2.2.2.1 c0.2.2.2.2.2.2.2.2.1 c0.2.2.2.2.2.2.2.2.2.1 c0.2.2.2.2.2.2.2.2.2.2.1 c0.2.2.2.2.2.2.2.2.2.2.2 x.1 x.2.1 x.2.2.1 x.2.2.2.1 x.2.2.2.2.1 x.2.2.2.2.2.1 x.2.2.2.2.2.2.1 x.2.2.2.2.2.2.2.1 x.2.2.2.2.2.2.2.2.1 x.2.2.2.2.2.2.2.2.2.1 x.2.2.2.2.2.2.2.2.2.2.1 x.2.2.2.2.2.2.2.2.2.2.2.1 x.2.2.2.2.2.2.2.2.2.2.2.2.1 x.2.2.2.2.2.2.2.2.2.2.2.2.2.1 x.2.2.2.2.2.2.2.2.2.2.2.2.2.2.1 x.2.2.2.2.2.2.2.2.2.2.2.2.2.2.2.1 x.2.2.2.2.2.2.2.2.2.2.2.2.2.2.2.2 h l hl
set_option maxRecDepth 10000 in
theorem t_pairs {N : Nat} {xs : Nat → Int32} {mc ms nc ns : Nat} {i : Int} {c0 : zCS} {x : zMX} {f : Int → Int} (hN : N < 100000) (hi : 0 ≤ i ∧ i + 4 < N) (h : RelM c0 x.1 x.2.1 x.2.2.1) (hmc : nc + 3 ≤ mc) (hms : ns + 18 ≤ ms) (k : ∀ (c1 : zCS) (x1 : zMX) (f1 : Int → Int) (nc1 ns1 : Nat), RelM c1 x1.1 x1.2.1 x1.2.2.1 → nc1 ≤ nc + 3 → ns1 ≤ ns + 18 → WL N xs q_L_law 15 mc ms 0 PL 1922 (lL i) [] (LW c1 (wMR c1 x1) f1) nc1 ns1) : WL N xs q_L_law 15 mc ms 0 PL 1636 (lL i) [] (LW c0 (wMR c0 x) f) nc ns := by
  have hok := rel_ok h
  refine wl_aload_n (pc' := 1637) dL_law_1636 rfl rfl rfl ?_
  refine wl_aload_n (pc' := 1638) dL_law_1637 rfl rfl rfl ?_
  refine wl_iload (pc' := 1640) dL_law_1638 rfl rfl ?_
  refine wl_iconst (pc' := 1641) dL_law_1640 rfl ?_
  refine wl_iadd (pc' := 1642) dL_law_1641 rfl ?_
  refine wl_sload (pc' := 1643) dL_law_1642 rfl (by omega) (by omega) (by omega) ?_
  refine wl_aload_n (pc' := 1644) dL_law_1643 rfl rfl rfl ?_
  refine wl_h (pc' := 1647) (k_L_pairs c0 hok f ((xs (i + 1).toNat).toInt) (zin_x _)) rfl ok_L_pairs rfl lm_L_215 dL_law_1644 rfl rfl rfl (Nat.le_of_ble_eq_true rfl) (Nat.le_of_ble_eq_true rfl) (by omega) (by omega) (fun cv f1 hcv => ?_)
  refine wl_istore (pc' := 1649) (ls' := (5, zI cv) :: lL i) dL_law_1647 rfl (by decide) rfl ?_
  refine wl_aload_n (pc' := 1650) dL_law_1649 rfl rfl rfl ?_
  refine wl_aload_n (pc' := 1651) dL_law_1650 rfl rfl rfl ?_
  refine wl_iload (pc' := 1653) dL_law_1651 rfl rfl ?_
  refine wl_iconst (pc' := 1654) dL_law_1653 rfl ?_
  refine wl_iadd (pc' := 1655) dL_law_1654 rfl ?_
  refine wl_sload (pc' := 1656) dL_law_1655 rfl (by omega) (by omega) (by omega) ?_
  refine wl_m (pc' := 1659) (R_pairs c0 x h ((xs (i + 1).toNat).toInt) (zin_x _)) (sh_pairs ((xs (i + 1).toNat).toInt) c0).v ok_X10_pairs lm_L_217 dL_law_1656 rfl rfl rfl rfl rfl (Nat.le_of_ble_eq_true rfl) (Nat.le_of_ble_eq_true rfl) rfl (by omega) (by omega) (fun x1 b hR1 hag => ?_)
  rcases hcv with ⟨a, ha, rfl, hf⟩ | ⟨E, hE, rfl⟩
  · obtain ⟨rfl, hth⟩ := agr_v ha hag
    refine wl_istore (pc' := 1661) (ls' := (6, zI a) :: (5, zI (0)) :: lL i) dL_law_1659 rfl (by decide) rfl ?_
    refine wl_aload_n (pc' := 1662) dL_law_1661 rfl rfl rfl ?_
    refine wl_th (pc' := 1665) lm_L_103 dL_law_1662 rfl (Nat.le_of_ble_eq_true rfl) (Nat.le_of_ble_eq_true rfl) rfl (by omega) (by omega) ?_
    refine wl_iload (pc' := 1667) dL_law_1665 rfl rfl ?_
    refine wl_icmpE (tgt := 1672) dL_law_1667 (by decide) hth ?_
    refine wl_iload (pc' := 1674) dL_law_1672 rfl rfl ?_
    refine wl_if_ne (tgt := 1689) (pc' := 1677) dL_law_1674 (by decide) rfl (by decide) (fun hq => absurd rfl hq) (fun _ => ?_)
    refine wl_aload_n (pc' := 1678) dL_law_1677 rfl rfl rfl ?_
    refine wl_iconst (pc' := 1679) dL_law_1678 rfl ?_
    refine wl_laload (pc' := 1680) (n := 1) (f := f1) dL_law_1679 rfl (LW_out _ _ _ rfl) (by decide) (by decide) (by decide) ?_
    refine wl_iload (pc' := 1682) dL_law_1680 rfl rfl ?_
    refine wl_i2lG (pc' := 1683) dL_law_1682 rfl ?_
    refine wl_lcmpE (pc' := 1684) dL_law_1683 rfl hf ?_
    refine wl_if_eq (tgt := 1689) (pc' := 1687) dL_law_1684 (by decide) rfl (by decide) (fun _ => ?_) (fun hq => absurd rfl hq)
    refine wl_goto (pc' := 1922) dL_law_1689 (by decide) ?_
    refine wl_sub (ls' := lL i) [2, 3, 4, 5, 6] rfl ?_
    exact k _ x1 f1 _ _ hR1 (by omega) (by omega)
  · obtain ⟨hth, n9, rfl⟩ := agr_x hE hag
    refine wl_istore (pc' := 1661) (ls' := (6, zI n9) :: (5, zI (cd1 E)) :: lL i) dL_law_1659 rfl (by decide) rfl ?_
    refine wl_aload_n (pc' := 1662) dL_law_1661 rfl rfl rfl ?_
    refine wl_th (pc' := 1665) lm_L_103 dL_law_1662 rfl (Nat.le_of_ble_eq_true rfl) (Nat.le_of_ble_eq_true rfl) rfl (by omega) (by omega) ?_
    refine wl_iload (pc' := 1667) dL_law_1665 rfl rfl ?_
    refine wl_icmpE (tgt := 1672) dL_law_1667 (by decide) hth ?_
    refine wl_iload (pc' := 1674) dL_law_1672 rfl rfl ?_
    refine wl_if_ne (tgt := 1689) (pc' := 1677) dL_law_1674 (by decide) rfl (cdz1 E).1 (fun _ => ?_) (fun hq => absurd hq (cdz1 E).2)
    refine wl_goto (pc' := 1922) dL_law_1689 (by decide) ?_
    refine wl_sub (ls' := lL i) [2, 3, 4, 5, 6] rfl ?_
    exact k _ x1 f1 _ _ hR1 (by omega) (by omega)
theorem R_rowLength (c0 : zCS) (x : zMX) (h : RelM c0 x.1 x.2.1 x.2.2.1) (l : Int) (hl : zin l) (p : Int) (hp : zin p) (kd : Int) (hkd : zin kd) : zMetW q_X10_rowLength 8 0 0 [zR 0, zI l, zI p, zI kd] (wMR c0 x) (Gl cd1 (cs_rowLength l p kd c0)) := by
  exact r_rowLength c0.1 c0.2.1 c0.2.2.1 c0.2.2.2.1 c0.2.2.2.2.1 c0.2.2.2.2.2.1 c0.2.2.2.2.2.2.1 c0.2.2.2.2.2.2.2.1 c0.2.2.2.2.2.2.2.2.1 c0.2.2.2.2.2.2.2.2.2.1 c0.2.2.2.2.2.2.2.2.2.2.1 c0.2.2.2.2.2.2.2.2.2.2.2 x.1 x.2.1 x.2.2.1 x.2.2.2.1 x.2.2.2.2.1 x.2.2.2.2.2.1 x.2.2.2.2.2.2.1 x.2.2.2.2.2.2.2.1 x.2.2.2.2.2.2.2.2.1 x.2.2.2.2.2.2.2.2.2.1 x.2.2.2.2.2.2.2.2.2.2.1 x.2.2.2.2.2.2.2.2.2.2.2.1 x.2.2.2.2.2.2.2.2.2.2.2.2.1 x.2.2.2.2.2.2.2.2.2.2.2.2.2.1 x.2.2.2.2.2.2.2.2.2.2.2.2.2.2.1 x.2.2.2.2.2.2.2.2.2.2.2.2.2.2.2.1 x.2.2.2.2.2.2.2.2.2.2.2.2.2.2.2.2 h l hl p hp kd hkd
set_option maxRecDepth 10000 in
theorem t_rowLength {N : Nat} {xs : Nat → Int32} {mc ms nc ns : Nat} {i : Int} {c0 : zCS} {x : zMX} {f : Int → Int} (hN : N < 100000) (hi : 0 ≤ i ∧ i + 4 < N) (h : RelM c0 x.1 x.2.1 x.2.2.1) (hmc : nc + 3 ≤ mc) (hms : ns + 18 ≤ ms) (k : ∀ (c1 : zCS) (x1 : zMX) (f1 : Int → Int) (nc1 ns1 : Nat), RelM c1 x1.1 x1.2.1 x1.2.2.1 → nc1 ≤ nc + 3 → ns1 ≤ ns + 18 → WL N xs q_L_law 15 mc ms 0 PL 1922 (lL i) [] (LW c1 (wMR c1 x1) f1) nc1 ns1) : WL N xs q_L_law 15 mc ms 0 PL 1692 (lL i) [] (LW c0 (wMR c0 x) f) nc ns := by
  have hok := rel_ok h
  refine wl_aload_n (pc' := 1693) dL_law_1692 rfl rfl rfl ?_
  refine wl_aload_n (pc' := 1694) dL_law_1693 rfl rfl rfl ?_
  refine wl_iload (pc' := 1696) dL_law_1694 rfl rfl ?_
  refine wl_iconst (pc' := 1697) dL_law_1696 rfl ?_
  refine wl_iadd (pc' := 1698) dL_law_1697 rfl ?_
  refine wl_sload (pc' := 1699) dL_law_1698 rfl (by omega) (by omega) (by omega) ?_
  refine wl_aload_n (pc' := 1700) dL_law_1699 rfl rfl rfl ?_
  refine wl_iload (pc' := 1702) dL_law_1700 rfl rfl ?_
  refine wl_iconst (pc' := 1703) dL_law_1702 rfl ?_
  refine wl_iadd (pc' := 1704) dL_law_1703 rfl ?_
  refine wl_sload (pc' := 1705) dL_law_1704 rfl (by omega) (by omega) (by omega) ?_
  refine wl_aload_n (pc' := 1706) dL_law_1705 rfl rfl rfl ?_
  refine wl_iload (pc' := 1708) dL_law_1706 rfl rfl ?_
  refine wl_iconst (pc' := 1709) dL_law_1708 rfl ?_
  refine wl_iadd (pc' := 1710) dL_law_1709 rfl ?_
  refine wl_sload (pc' := 1711) dL_law_1710 rfl (by omega) (by omega) (by omega) ?_
  refine wl_aload_n (pc' := 1712) dL_law_1711 rfl rfl rfl ?_
  refine wl_h (pc' := 1715) (k_L_rowLength c0 hok f ((xs (i + 1).toNat).toInt) (zin_x _) ((xs (i + 2).toNat).toInt) (zin_x _) ((xs (i + 3).toNat).toInt) (zin_x _)) rfl ok_L_rowLength rfl lm_L_218 dL_law_1712 rfl rfl rfl (Nat.le_of_ble_eq_true rfl) (Nat.le_of_ble_eq_true rfl) (by omega) (by omega) (fun cv f1 hcv => ?_)
  refine wl_istore (pc' := 1717) (ls' := (5, zI cv) :: lL i) dL_law_1715 rfl (by decide) rfl ?_
  refine wl_aload_n (pc' := 1718) dL_law_1717 rfl rfl rfl ?_
  refine wl_aload_n (pc' := 1719) dL_law_1718 rfl rfl rfl ?_
  refine wl_iload (pc' := 1721) dL_law_1719 rfl rfl ?_
  refine wl_iconst (pc' := 1722) dL_law_1721 rfl ?_
  refine wl_iadd (pc' := 1723) dL_law_1722 rfl ?_
  refine wl_sload (pc' := 1724) dL_law_1723 rfl (by omega) (by omega) (by omega) ?_
  refine wl_aload_n (pc' := 1725) dL_law_1724 rfl rfl rfl ?_
  refine wl_iload (pc' := 1727) dL_law_1725 rfl rfl ?_
  refine wl_iconst (pc' := 1728) dL_law_1727 rfl ?_
  refine wl_iadd (pc' := 1729) dL_law_1728 rfl ?_
  refine wl_sload (pc' := 1730) dL_law_1729 rfl (by omega) (by omega) (by omega) ?_
  refine wl_aload_n (pc' := 1731) dL_law_1730 rfl rfl rfl ?_
  refine wl_iload (pc' := 1733) dL_law_1731 rfl rfl ?_
  refine wl_iconst (pc' := 1734) dL_law_1733 rfl ?_
  refine wl_iadd (pc' := 1735) dL_law_1734 rfl ?_
  refine wl_sload (pc' := 1736) dL_law_1735 rfl (by omega) (by omega) (by omega) ?_
  refine wl_m (pc' := 1739) (R_rowLength c0 x h ((xs (i + 1).toNat).toInt) (zin_x _) ((xs (i + 2).toNat).toInt) (zin_x _) ((xs (i + 3).toNat).toInt) (zin_x _)) (sh_rowLength ((xs (i + 1).toNat).toInt) ((xs (i + 2).toNat).toInt) ((xs (i + 3).toNat).toInt) c0).v ok_X10_rowLength lm_L_221 dL_law_1736 rfl rfl rfl rfl rfl (Nat.le_of_ble_eq_true rfl) (Nat.le_of_ble_eq_true rfl) rfl (by omega) (by omega) (fun x1 b hR1 hag => ?_)
  rcases hcv with ⟨a, ha, rfl, hf⟩ | ⟨E, hE, rfl⟩
  · obtain ⟨rfl, hth⟩ := agr_v ha hag
    refine wl_istore (pc' := 1741) (ls' := (6, zI a) :: (5, zI (0)) :: lL i) dL_law_1739 rfl (by decide) rfl ?_
    refine wl_aload_n (pc' := 1742) dL_law_1741 rfl rfl rfl ?_
    refine wl_th (pc' := 1745) lm_L_103 dL_law_1742 rfl (Nat.le_of_ble_eq_true rfl) (Nat.le_of_ble_eq_true rfl) rfl (by omega) (by omega) ?_
    refine wl_iload (pc' := 1747) dL_law_1745 rfl rfl ?_
    refine wl_icmpE (tgt := 1752) dL_law_1747 (by decide) hth ?_
    refine wl_iload (pc' := 1754) dL_law_1752 rfl rfl ?_
    refine wl_if_ne (tgt := 1769) (pc' := 1757) dL_law_1754 (by decide) rfl (by decide) (fun hq => absurd rfl hq) (fun _ => ?_)
    refine wl_aload_n (pc' := 1758) dL_law_1757 rfl rfl rfl ?_
    refine wl_iconst (pc' := 1759) dL_law_1758 rfl ?_
    refine wl_laload (pc' := 1760) (n := 1) (f := f1) dL_law_1759 rfl (LW_out _ _ _ rfl) (by decide) (by decide) (by decide) ?_
    refine wl_iload (pc' := 1762) dL_law_1760 rfl rfl ?_
    refine wl_i2lG (pc' := 1763) dL_law_1762 rfl ?_
    refine wl_lcmpE (pc' := 1764) dL_law_1763 rfl hf ?_
    refine wl_if_eq (tgt := 1769) (pc' := 1767) dL_law_1764 (by decide) rfl (by decide) (fun _ => ?_) (fun hq => absurd rfl hq)
    refine wl_goto (pc' := 1922) dL_law_1769 (by decide) ?_
    refine wl_sub (ls' := lL i) [2, 3, 4, 5, 6] rfl ?_
    exact k _ x1 f1 _ _ hR1 (by omega) (by omega)
  · obtain ⟨hth, n9, rfl⟩ := agr_x hE hag
    refine wl_istore (pc' := 1741) (ls' := (6, zI n9) :: (5, zI (cd1 E)) :: lL i) dL_law_1739 rfl (by decide) rfl ?_
    refine wl_aload_n (pc' := 1742) dL_law_1741 rfl rfl rfl ?_
    refine wl_th (pc' := 1745) lm_L_103 dL_law_1742 rfl (Nat.le_of_ble_eq_true rfl) (Nat.le_of_ble_eq_true rfl) rfl (by omega) (by omega) ?_
    refine wl_iload (pc' := 1747) dL_law_1745 rfl rfl ?_
    refine wl_icmpE (tgt := 1752) dL_law_1747 (by decide) hth ?_
    refine wl_iload (pc' := 1754) dL_law_1752 rfl rfl ?_
    refine wl_if_ne (tgt := 1769) (pc' := 1757) dL_law_1754 (by decide) rfl (cdz1 E).1 (fun _ => ?_) (fun hq => absurd hq (cdz1 E).2)
    refine wl_goto (pc' := 1922) dL_law_1769 (by decide) ?_
    refine wl_sub (ls' := lL i) [2, 3, 4, 5, 6] rfl ?_
    exact k _ x1 f1 _ _ hR1 (by omega) (by omega)
theorem R_rowChar (c0 : zCS) (x : zMX) (h : RelM c0 x.1 x.2.1 x.2.2.1) (l : Int) (hl : zin l) (p : Int) (hp : zin p) (kd : Int) (hkd : zin kd) (c : Int) (hc : zin c) : zMetW q_X10_rowChar 8 0 0 [zR 0, zI l, zI p, zI kd, zI c] (wMR c0 x) (Gl cd1 (cs_rowChar l p kd c c0)) := by
  exact r_rowChar c0.1 c0.2.1 c0.2.2.1 c0.2.2.2.1 c0.2.2.2.2.1 c0.2.2.2.2.2.1 c0.2.2.2.2.2.2.1 c0.2.2.2.2.2.2.2.1 c0.2.2.2.2.2.2.2.2.1 c0.2.2.2.2.2.2.2.2.2.1 c0.2.2.2.2.2.2.2.2.2.2.1 c0.2.2.2.2.2.2.2.2.2.2.2 x.1 x.2.1 x.2.2.1 x.2.2.2.1 x.2.2.2.2.1 x.2.2.2.2.2.1 x.2.2.2.2.2.2.1 x.2.2.2.2.2.2.2.1 x.2.2.2.2.2.2.2.2.1 x.2.2.2.2.2.2.2.2.2.1 x.2.2.2.2.2.2.2.2.2.2.1 x.2.2.2.2.2.2.2.2.2.2.2.1 x.2.2.2.2.2.2.2.2.2.2.2.2.1 x.2.2.2.2.2.2.2.2.2.2.2.2.2.1 x.2.2.2.2.2.2.2.2.2.2.2.2.2.2.1 x.2.2.2.2.2.2.2.2.2.2.2.2.2.2.2.1 x.2.2.2.2.2.2.2.2.2.2.2.2.2.2.2.2 h l hl p hp kd hkd c hc
set_option maxRecDepth 10000 in
theorem t_rowChar {N : Nat} {xs : Nat → Int32} {mc ms nc ns : Nat} {i : Int} {c0 : zCS} {x : zMX} {f : Int → Int} (hN : N < 100000) (hi : 0 ≤ i ∧ i + 4 < N) (h : RelM c0 x.1 x.2.1 x.2.2.1) (hmc : nc + 3 ≤ mc) (hms : ns + 18 ≤ ms) (k : ∀ (c1 : zCS) (x1 : zMX) (f1 : Int → Int) (nc1 ns1 : Nat), RelM c1 x1.1 x1.2.1 x1.2.2.1 → nc1 ≤ nc + 3 → ns1 ≤ ns + 18 → WL N xs q_L_law 15 mc ms 0 PL 1922 (lL i) [] (LW c1 (wMR c1 x1) f1) nc1 ns1) : WL N xs q_L_law 15 mc ms 0 PL 1772 (lL i) [] (LW c0 (wMR c0 x) f) nc ns := by
  have hok := rel_ok h
  refine wl_aload_n (pc' := 1773) dL_law_1772 rfl rfl rfl ?_
  refine wl_aload_n (pc' := 1774) dL_law_1773 rfl rfl rfl ?_
  refine wl_iload (pc' := 1776) dL_law_1774 rfl rfl ?_
  refine wl_iconst (pc' := 1777) dL_law_1776 rfl ?_
  refine wl_iadd (pc' := 1778) dL_law_1777 rfl ?_
  refine wl_sload (pc' := 1779) dL_law_1778 rfl (by omega) (by omega) (by omega) ?_
  refine wl_aload_n (pc' := 1780) dL_law_1779 rfl rfl rfl ?_
  refine wl_iload (pc' := 1782) dL_law_1780 rfl rfl ?_
  refine wl_iconst (pc' := 1783) dL_law_1782 rfl ?_
  refine wl_iadd (pc' := 1784) dL_law_1783 rfl ?_
  refine wl_sload (pc' := 1785) dL_law_1784 rfl (by omega) (by omega) (by omega) ?_
  refine wl_aload_n (pc' := 1786) dL_law_1785 rfl rfl rfl ?_
  refine wl_iload (pc' := 1788) dL_law_1786 rfl rfl ?_
  refine wl_iconst (pc' := 1789) dL_law_1788 rfl ?_
  refine wl_iadd (pc' := 1790) dL_law_1789 rfl ?_
  refine wl_sload (pc' := 1791) dL_law_1790 rfl (by omega) (by omega) (by omega) ?_
  refine wl_aload_n (pc' := 1792) dL_law_1791 rfl rfl rfl ?_
  refine wl_iload (pc' := 1794) dL_law_1792 rfl rfl ?_
  refine wl_iconst (pc' := 1795) dL_law_1794 rfl ?_
  refine wl_iadd (pc' := 1796) dL_law_1795 rfl ?_
  refine wl_sload (pc' := 1797) dL_law_1796 rfl (by omega) (by omega) (by omega) ?_
  refine wl_aload_n (pc' := 1798) dL_law_1797 rfl rfl rfl ?_
  refine wl_h (pc' := 1801) (k_L_rowChar c0 hok f ((xs (i + 1).toNat).toInt) (zin_x _) ((xs (i + 2).toNat).toInt) (zin_x _) ((xs (i + 3).toNat).toInt) (zin_x _) ((xs (i + 4).toNat).toInt) (zin_x _)) rfl ok_L_rowChar rfl lm_L_222 dL_law_1798 rfl rfl rfl (Nat.le_of_ble_eq_true rfl) (Nat.le_of_ble_eq_true rfl) (by omega) (by omega) (fun cv f1 hcv => ?_)
  refine wl_istore (pc' := 1803) (ls' := (5, zI cv) :: lL i) dL_law_1801 rfl (by decide) rfl ?_
  refine wl_aload_n (pc' := 1804) dL_law_1803 rfl rfl rfl ?_
  refine wl_aload_n (pc' := 1805) dL_law_1804 rfl rfl rfl ?_
  refine wl_iload (pc' := 1807) dL_law_1805 rfl rfl ?_
  refine wl_iconst (pc' := 1808) dL_law_1807 rfl ?_
  refine wl_iadd (pc' := 1809) dL_law_1808 rfl ?_
  refine wl_sload (pc' := 1810) dL_law_1809 rfl (by omega) (by omega) (by omega) ?_
  refine wl_aload_n (pc' := 1811) dL_law_1810 rfl rfl rfl ?_
  refine wl_iload (pc' := 1813) dL_law_1811 rfl rfl ?_
  refine wl_iconst (pc' := 1814) dL_law_1813 rfl ?_
  refine wl_iadd (pc' := 1815) dL_law_1814 rfl ?_
  refine wl_sload (pc' := 1816) dL_law_1815 rfl (by omega) (by omega) (by omega) ?_
  refine wl_aload_n (pc' := 1817) dL_law_1816 rfl rfl rfl ?_
  refine wl_iload (pc' := 1819) dL_law_1817 rfl rfl ?_
  refine wl_iconst (pc' := 1820) dL_law_1819 rfl ?_
  refine wl_iadd (pc' := 1821) dL_law_1820 rfl ?_
  refine wl_sload (pc' := 1822) dL_law_1821 rfl (by omega) (by omega) (by omega) ?_
  refine wl_aload_n (pc' := 1823) dL_law_1822 rfl rfl rfl ?_
  refine wl_iload (pc' := 1825) dL_law_1823 rfl rfl ?_
  refine wl_iconst (pc' := 1826) dL_law_1825 rfl ?_
  refine wl_iadd (pc' := 1827) dL_law_1826 rfl ?_
  refine wl_sload (pc' := 1828) dL_law_1827 rfl (by omega) (by omega) (by omega) ?_
  refine wl_m (pc' := 1831) (R_rowChar c0 x h ((xs (i + 1).toNat).toInt) (zin_x _) ((xs (i + 2).toNat).toInt) (zin_x _) ((xs (i + 3).toNat).toInt) (zin_x _) ((xs (i + 4).toNat).toInt) (zin_x _)) (sh_rowChar ((xs (i + 1).toNat).toInt) ((xs (i + 2).toNat).toInt) ((xs (i + 3).toNat).toInt) ((xs (i + 4).toNat).toInt) c0).v ok_X10_rowChar lm_L_225 dL_law_1828 rfl rfl rfl rfl rfl (Nat.le_of_ble_eq_true rfl) (Nat.le_of_ble_eq_true rfl) rfl (by omega) (by omega) (fun x1 b hR1 hag => ?_)
  rcases hcv with ⟨a, ha, rfl, hf⟩ | ⟨E, hE, rfl⟩
  · obtain ⟨rfl, hth⟩ := agr_v ha hag
    refine wl_istore (pc' := 1833) (ls' := (6, zI a) :: (5, zI (0)) :: lL i) dL_law_1831 rfl (by decide) rfl ?_
    refine wl_aload_n (pc' := 1834) dL_law_1833 rfl rfl rfl ?_
    refine wl_th (pc' := 1837) lm_L_103 dL_law_1834 rfl (Nat.le_of_ble_eq_true rfl) (Nat.le_of_ble_eq_true rfl) rfl (by omega) (by omega) ?_
    refine wl_iload (pc' := 1839) dL_law_1837 rfl rfl ?_
    refine wl_icmpE (tgt := 1844) dL_law_1839 (by decide) hth ?_
    refine wl_iload (pc' := 1846) dL_law_1844 rfl rfl ?_
    refine wl_if_ne (tgt := 1861) (pc' := 1849) dL_law_1846 (by decide) rfl (by decide) (fun hq => absurd rfl hq) (fun _ => ?_)
    refine wl_aload_n (pc' := 1850) dL_law_1849 rfl rfl rfl ?_
    refine wl_iconst (pc' := 1851) dL_law_1850 rfl ?_
    refine wl_laload (pc' := 1852) (n := 1) (f := f1) dL_law_1851 rfl (LW_out _ _ _ rfl) (by decide) (by decide) (by decide) ?_
    refine wl_iload (pc' := 1854) dL_law_1852 rfl rfl ?_
    refine wl_i2lG (pc' := 1855) dL_law_1854 rfl ?_
    refine wl_lcmpE (pc' := 1856) dL_law_1855 rfl hf ?_
    refine wl_if_eq (tgt := 1861) (pc' := 1859) dL_law_1856 (by decide) rfl (by decide) (fun _ => ?_) (fun hq => absurd rfl hq)
    refine wl_goto (pc' := 1922) dL_law_1861 (by decide) ?_
    refine wl_sub (ls' := lL i) [2, 3, 4, 5, 6] rfl ?_
    exact k _ x1 f1 _ _ hR1 (by omega) (by omega)
  · obtain ⟨hth, n9, rfl⟩ := agr_x hE hag
    refine wl_istore (pc' := 1833) (ls' := (6, zI n9) :: (5, zI (cd1 E)) :: lL i) dL_law_1831 rfl (by decide) rfl ?_
    refine wl_aload_n (pc' := 1834) dL_law_1833 rfl rfl rfl ?_
    refine wl_th (pc' := 1837) lm_L_103 dL_law_1834 rfl (Nat.le_of_ble_eq_true rfl) (Nat.le_of_ble_eq_true rfl) rfl (by omega) (by omega) ?_
    refine wl_iload (pc' := 1839) dL_law_1837 rfl rfl ?_
    refine wl_icmpE (tgt := 1844) dL_law_1839 (by decide) hth ?_
    refine wl_iload (pc' := 1846) dL_law_1844 rfl rfl ?_
    refine wl_if_ne (tgt := 1861) (pc' := 1849) dL_law_1846 (by decide) rfl (cdz1 E).1 (fun _ => ?_) (fun hq => absurd hq (cdz1 E).2)
    refine wl_goto (pc' := 1922) dL_law_1861 (by decide) ?_
    refine wl_sub (ls' := lL i) [2, 3, 4, 5, 6] rfl ?_
    exact k _ x1 f1 _ _ hR1 (by omega) (by omega)
theorem R_undo (c0 : zCS) (x : zMX) (h : RelM c0 x.1 x.2.1 x.2.2.1)  : zMetW q_X10_undo 1 0 0 [zR 0] (wMR c0 x) (Gl cd1 (cs_undo c0)) := by
  exact r_undo c0.1 c0.2.1 c0.2.2.1 c0.2.2.2.1 c0.2.2.2.2.1 c0.2.2.2.2.2.1 c0.2.2.2.2.2.2.1 c0.2.2.2.2.2.2.2.1 c0.2.2.2.2.2.2.2.2.1 c0.2.2.2.2.2.2.2.2.2.1 c0.2.2.2.2.2.2.2.2.2.2.1 c0.2.2.2.2.2.2.2.2.2.2.2 x.1 x.2.1 x.2.2.1 x.2.2.2.1 x.2.2.2.2.1 x.2.2.2.2.2.1 x.2.2.2.2.2.2.1 x.2.2.2.2.2.2.2.1 x.2.2.2.2.2.2.2.2.1 x.2.2.2.2.2.2.2.2.2.1 x.2.2.2.2.2.2.2.2.2.2.1 x.2.2.2.2.2.2.2.2.2.2.2.1 x.2.2.2.2.2.2.2.2.2.2.2.2.1 x.2.2.2.2.2.2.2.2.2.2.2.2.2.1 x.2.2.2.2.2.2.2.2.2.2.2.2.2.2.1 x.2.2.2.2.2.2.2.2.2.2.2.2.2.2.2.1 x.2.2.2.2.2.2.2.2.2.2.2.2.2.2.2.2 h
set_option maxRecDepth 10000 in
theorem t_undo {N : Nat} {xs : Nat → Int32} {mc ms nc ns : Nat} {i : Int} {c0 : zCS} {x : zMX} {f : Int → Int} (hN : N < 100000) (hi : 0 ≤ i ∧ i + 4 < N) (h : RelM c0 x.1 x.2.1 x.2.2.1) (hmc : nc + 3 ≤ mc) (hms : ns + 18 ≤ ms) (k : ∀ (c1 : zCS) (x1 : zMX) (f1 : Int → Int) (nc1 ns1 : Nat), RelM c1 x1.1 x1.2.1 x1.2.2.1 → nc1 ≤ nc + 3 → ns1 ≤ ns + 18 → WL N xs q_L_law 15 mc ms 0 PL 1922 (lL i) [] (LW c1 (wMR c1 x1) f1) nc1 ns1) : WL N xs q_L_law 15 mc ms 0 PL 1864 (lL i) [] (LW c0 (wMR c0 x) f) nc ns := by
  have hok := rel_ok h
  refine wl_aload_n (pc' := 1865) dL_law_1864 rfl rfl rfl ?_
  refine wl_aload_n (pc' := 1866) dL_law_1865 rfl rfl rfl ?_
  refine wl_h (pc' := 1869) (k_L_undo c0 hok f) rfl ok_L_undo rfl lm_L_226 dL_law_1866 rfl rfl rfl (Nat.le_of_ble_eq_true rfl) (Nat.le_of_ble_eq_true rfl) (by omega) (by omega) (fun cv f1 hcv => ?_)
  refine wl_istore (pc' := 1871) (ls' := (5, zI cv) :: lL i) dL_law_1869 rfl (by decide) rfl ?_
  refine wl_aload_n (pc' := 1872) dL_law_1871 rfl rfl rfl ?_
  refine wl_m (pc' := 1875) (R_undo c0 x h) (sh_undo  c0).v ok_X10_undo lm_L_229 dL_law_1872 rfl rfl rfl rfl rfl (Nat.le_of_ble_eq_true rfl) (Nat.le_of_ble_eq_true rfl) rfl (by omega) (by omega) (fun x1 b hR1 hag => ?_)
  rcases hcv with ⟨a, ha, rfl, hf⟩ | ⟨E, hE, rfl⟩
  · obtain ⟨rfl, hth⟩ := agr_v ha hag
    refine wl_istore (pc' := 1877) (ls' := (6, zI a) :: (5, zI (0)) :: lL i) dL_law_1875 rfl (by decide) rfl ?_
    refine wl_aload_n (pc' := 1878) dL_law_1877 rfl rfl rfl ?_
    refine wl_th (pc' := 1881) lm_L_103 dL_law_1878 rfl (Nat.le_of_ble_eq_true rfl) (Nat.le_of_ble_eq_true rfl) rfl (by omega) (by omega) ?_
    refine wl_iload (pc' := 1883) dL_law_1881 rfl rfl ?_
    refine wl_icmpE (tgt := 1888) dL_law_1883 (by decide) hth ?_
    refine wl_iload (pc' := 1890) dL_law_1888 rfl rfl ?_
    refine wl_if_ne (tgt := 1905) (pc' := 1893) dL_law_1890 (by decide) rfl (by decide) (fun hq => absurd rfl hq) (fun _ => ?_)
    refine wl_aload_n (pc' := 1894) dL_law_1893 rfl rfl rfl ?_
    refine wl_iconst (pc' := 1895) dL_law_1894 rfl ?_
    refine wl_laload (pc' := 1896) (n := 1) (f := f1) dL_law_1895 rfl (LW_out _ _ _ rfl) (by decide) (by decide) (by decide) ?_
    refine wl_iload (pc' := 1898) dL_law_1896 rfl rfl ?_
    refine wl_i2lG (pc' := 1899) dL_law_1898 rfl ?_
    refine wl_lcmpE (pc' := 1900) dL_law_1899 rfl hf ?_
    refine wl_if_eq (tgt := 1905) (pc' := 1903) dL_law_1900 (by decide) rfl (by decide) (fun _ => ?_) (fun hq => absurd rfl hq)
    refine wl_goto (pc' := 1922) dL_law_1905 (by decide) ?_
    refine wl_sub (ls' := lL i) [2, 3, 4, 5, 6] rfl ?_
    exact k _ x1 f1 _ _ hR1 (by omega) (by omega)
  · obtain ⟨hth, n9, rfl⟩ := agr_x hE hag
    refine wl_istore (pc' := 1877) (ls' := (6, zI n9) :: (5, zI (cd1 E)) :: lL i) dL_law_1875 rfl (by decide) rfl ?_
    refine wl_aload_n (pc' := 1878) dL_law_1877 rfl rfl rfl ?_
    refine wl_th (pc' := 1881) lm_L_103 dL_law_1878 rfl (Nat.le_of_ble_eq_true rfl) (Nat.le_of_ble_eq_true rfl) rfl (by omega) (by omega) ?_
    refine wl_iload (pc' := 1883) dL_law_1881 rfl rfl ?_
    refine wl_icmpE (tgt := 1888) dL_law_1883 (by decide) hth ?_
    refine wl_iload (pc' := 1890) dL_law_1888 rfl rfl ?_
    refine wl_if_ne (tgt := 1905) (pc' := 1893) dL_law_1890 (by decide) rfl (cdz1 E).1 (fun _ => ?_) (fun hq => absurd hq (cdz1 E).2)
    refine wl_goto (pc' := 1922) dL_law_1905 (by decide) ?_
    refine wl_sub (ls' := lL i) [2, 3, 4, 5, 6] rfl ?_
    exact k _ x1 f1 _ _ hR1 (by omega) (by omega)
theorem R_fingerprint (c0 : zCS) (x : zMX) (h : RelM c0 x.1 x.2.1 x.2.2.1)  : zMetW q_X10_fingerprint 1 0 0 [zR 0] (wMR c0 x) (Gl cd1 (cs_fingerprint c0)) := by
  exact r_fingerprint c0.1 c0.2.1 c0.2.2.1 c0.2.2.2.1 c0.2.2.2.2.1 c0.2.2.2.2.2.1 c0.2.2.2.2.2.2.1 c0.2.2.2.2.2.2.2.1 c0.2.2.2.2.2.2.2.2.1 c0.2.2.2.2.2.2.2.2.2.1 c0.2.2.2.2.2.2.2.2.2.2.1 c0.2.2.2.2.2.2.2.2.2.2.2 x.1 x.2.1 x.2.2.1 x.2.2.2.1 x.2.2.2.2.1 x.2.2.2.2.2.1 x.2.2.2.2.2.2.1 x.2.2.2.2.2.2.2.1 x.2.2.2.2.2.2.2.2.1 x.2.2.2.2.2.2.2.2.2.1 x.2.2.2.2.2.2.2.2.2.2.1 x.2.2.2.2.2.2.2.2.2.2.2.1 x.2.2.2.2.2.2.2.2.2.2.2.2.1 x.2.2.2.2.2.2.2.2.2.2.2.2.2.1 x.2.2.2.2.2.2.2.2.2.2.2.2.2.2.1 x.2.2.2.2.2.2.2.2.2.2.2.2.2.2.2.1 x.2.2.2.2.2.2.2.2.2.2.2.2.2.2.2.2 h
set_option maxRecDepth 10000 in
theorem t_fingerprint {N : Nat} {xs : Nat → Int32} {mc ms nc ns : Nat} {i : Int} {c0 : zCS} {x : zMX} {f : Int → Int} (hN : N < 100000) (hi : 0 ≤ i ∧ i + 4 < N) (h : RelM c0 x.1 x.2.1 x.2.2.1) (hmc : nc + 3 ≤ mc) (hms : ns + 18 ≤ ms) (k : ∀ (c1 : zCS) (x1 : zMX) (f1 : Int → Int) (nc1 ns1 : Nat), RelM c1 x1.1 x1.2.1 x1.2.2.1 → nc1 ≤ nc + 3 → ns1 ≤ ns + 18 → WL N xs q_L_law 15 mc ms 0 PL 1922 (lL i) [] (LW c1 (wMR c1 x1) f1) nc1 ns1) : WL N xs q_L_law 15 mc ms 0 PL 1908 (lL i) [] (LW c0 (wMR c0 x) f) nc ns := by
  have hok := rel_ok h
  obtain ⟨a, ha⟩ : ∃ a, (cs_fingerprint c0).1 = .inl (some (zJ a)) := ⟨_, rfl⟩
  refine wl_aload_n (pc' := 1909) dL_law_1908 rfl rfl rfl ?_
  refine wl_x (pc' := 1912) (k_X9_fingerprint c0.1 c0.2.1 c0.2.2.1 c0.2.2.2.1 c0.2.2.2.2.1 c0.2.2.2.2.2.1 c0.2.2.2.2.2.2.1 c0.2.2.2.2.2.2.2.1 c0.2.2.2.2.2.2.2.2.1 c0.2.2.2.2.2.2.2.2.2.1 c0.2.2.2.2.2.2.2.2.2.2.1 c0.2.2.2.2.2.2.2.2.2.2.2 hok) ha rfl ok_X9_fingerprint lm_L_230 dL_law_1909 rfl rfl rfl rfl rfl (Nat.le_of_ble_eq_true rfl) (Nat.le_of_ble_eq_true rfl) rfl (by omega) (by omega) ?_
  refine wl_aload_n (pc' := 1913) dL_law_1912 rfl rfl rfl ?_
  refine wl_m (pc' := 1916) (R_fingerprint c0 x h) (Or.inr (Or.inl ⟨a, ha⟩)) ok_X10_fingerprint lm_L_234 dL_law_1913 rfl rfl rfl rfl rfl (Nat.le_of_ble_eq_true rfl) (Nat.le_of_ble_eq_true rfl) rfl (by omega) (by omega) (fun x1 b hR1 hag => ?_)
  obtain ⟨rfl, -⟩ := agr_v ha hag
  refine wl_lcmpE (pc' := 1917) dL_law_1916 rfl rfl ?_
  refine wl_if_eq (tgt := 1922) (pc' := 1920) dL_law_1917 (by decide) rfl (by decide) (fun _ => ?_) (fun hq => absurd rfl hq)
  exact k _ x1 f _ _ hR1 (by omega) (by omega)
