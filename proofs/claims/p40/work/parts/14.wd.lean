/-! THE LAYER, 4: divisions, bits, long constants, natives -/
def zand (a b : Int) : Int := (Int32.ofInt a &&& Int32.ofInt b).toInt
def zor (a b : Int) : Int := (Int32.ofInt a ||| Int32.ofInt b).toInt
def zshl (a b : Int) : Int := (Int32.ofInt a <<< (Int32.ofInt b &&& 31)).toInt
def zshr (a b : Int) : Int := (Int32.ofInt a >>> (Int32.ofInt b &&& 31)).toInt
theorem zi_div {a b : Int} (ha : zin a) (hb : zin b) (hq : zin (a.tdiv b)) : Int32.ofInt a / Int32.ofInt b = Int32.ofInt (a.tdiv b) := by
  apply Int32.toInt_inj.mp
  rw [Int32.toInt_div, zin_t ha, zin_t hb, zin_t hq]
  exact Int.bmod_eq_of_le (by have := hq.1; omega) (by have := hq.2; omega)
section ZD
variable {Y Y1 : zY} {d d1 mc ms mc1 ms1 n0 : Nat} {Post Post1 : zP → List zE → Prop} {pc pc' : Nat} {ls : List (Nat × zV)} {st stk as : List zV} {w w1 : List zE} {nc ns : Nat} {ρ : List Nat}
theorem wa_idiv {a b : Int} (hd : decode Y.2.1 pc = .ok (.idiv, 1)) (hp : pc + 1 = pc') (ha : zin a) (hb9 : zin b) (h0 : ¬ b = 0) (hq : zin (a.tdiv b)) (k : Wa Y d mc ms n0 Post pc' ls (zI (a.tdiv b) :: st) w nc ns) : Wa Y d mc ms n0 Post pc ls (zI b :: zI a :: st) w nc ns := by
  subst hp
  intro p l e R s m args below meth c G A ad0 Qm C F ad H locs lsA hag hst hl
  have kk := k p l e R s m args below meth c G A ad0 Qm C F ad H locs lsA hag hst hl
  obtain ⟨-, hR, hx, hb, hml, -, hown, -, -, -, hT, hE, -⟩ := C
  refine lv_idiv hx hb hd (fun h => h0 ((zi_eq hb9 ⟨by omega, by omega⟩).mp (h.trans zi_0.symm))) ?_
  rw [zi_div ha hb9 hq]
  exact kk
theorem wa_irem {a b : Int} (hd : decode Y.2.1 pc = .ok (.irem, 1)) (hp : pc + 1 = pc') (ha : zin a) (hb9 : zin b) (h0 : ¬ b = 0) (hq : zin (a.tdiv b)) (k : Wa Y d mc ms n0 Post pc' ls (zI (a.tmod b) :: st) w nc ns) : Wa Y d mc ms n0 Post pc ls (zI b :: zI a :: st) w nc ns := by
  subst hp
  intro p l e R s m args below meth c G A ad0 Qm C F ad H locs lsA hag hst hl
  have kk := k p l e R s m args below meth c G A ad0 Qm C F ad H locs lsA hag hst hl
  obtain ⟨-, hR, hx, hb, hml, -, hown, -, -, -, hT, hE, -⟩ := C
  refine lv_irem hx hb hd (fun h => h0 ((zi_eq hb9 ⟨by omega, by omega⟩).mp (h.trans zi_0.symm))) ?_
  rw [zi_div ha hb9 hq, ← Int32.ofInt_mul, ← Int32.ofInt_sub, show a - a.tdiv b * b = a.tmod b by rw [Int.tmod_def, Int.mul_comm]]
  exact kk
theorem wa_iand {a b : Int} (hd : decode Y.2.1 pc = .ok (.iand, 1)) (hp : pc + 1 = pc') (k : Wa Y d mc ms n0 Post pc' ls (zI (zand a b) :: st) w nc ns) : Wa Y d mc ms n0 Post pc ls (zI b :: zI a :: st) w nc ns := by
  subst hp
  intro p l e R s m args below meth c G A ad0 Qm C F ad H locs lsA hag hst hl
  have kk := k p l e R s m args below meth c G A ad0 Qm C F ad H locs lsA hag hst hl
  obtain ⟨-, hR, hx, hb, hml, -, hown, -, -, -, hT, hE, -⟩ := C
  refine lv_iand hx hb hd ?_
  have e9 : zc G.2.2.1 ad (zI (zand a b)) = .int _ := congrArg Value.int (Int32.ofInt_toInt _)
  rw [← e9]
  exact kk
theorem wa_ior {a b : Int} (hd : decode Y.2.1 pc = .ok (.ior, 1)) (hp : pc + 1 = pc') (k : Wa Y d mc ms n0 Post pc' ls (zI (zor a b) :: st) w nc ns) : Wa Y d mc ms n0 Post pc ls (zI b :: zI a :: st) w nc ns := by
  subst hp
  intro p l e R s m args below meth c G A ad0 Qm C F ad H locs lsA hag hst hl
  have kk := k p l e R s m args below meth c G A ad0 Qm C F ad H locs lsA hag hst hl
  obtain ⟨-, hR, hx, hb, hml, -, hown, -, -, -, hT, hE, -⟩ := C
  refine lv_ior hx hb hd ?_
  have e9 : zc G.2.2.1 ad (zI (zor a b)) = .int _ := congrArg Value.int (Int32.ofInt_toInt _)
  rw [← e9]
  exact kk
theorem wa_ishl {a b : Int} (hd : decode Y.2.1 pc = .ok (.ishl, 1)) (hp : pc + 1 = pc') (k : Wa Y d mc ms n0 Post pc' ls (zI (zshl a b) :: st) w nc ns) : Wa Y d mc ms n0 Post pc ls (zI b :: zI a :: st) w nc ns := by
  subst hp
  intro p l e R s m args below meth c G A ad0 Qm C F ad H locs lsA hag hst hl
  have kk := k p l e R s m args below meth c G A ad0 Qm C F ad H locs lsA hag hst hl
  obtain ⟨-, hR, hx, hb, hml, -, hown, -, -, -, hT, hE, -⟩ := C
  refine lv_ishl hx hb hd ?_
  have e9 : zc G.2.2.1 ad (zI (zshl a b)) = .int _ := congrArg Value.int (Int32.ofInt_toInt _)
  rw [← e9]
  exact kk
theorem wa_ishr {a b : Int} (hd : decode Y.2.1 pc = .ok (.ishr, 1)) (hp : pc + 1 = pc') (k : Wa Y d mc ms n0 Post pc' ls (zI (zshr a b) :: st) w nc ns) : Wa Y d mc ms n0 Post pc ls (zI b :: zI a :: st) w nc ns := by
  subst hp
  intro p l e R s m args below meth c G A ad0 Qm C F ad H locs lsA hag hst hl
  have kk := k p l e R s m args below meth c G A ad0 Qm C F ad H locs lsA hag hst hl
  obtain ⟨-, hR, hx, hb, hml, -, hown, -, -, -, hT, hE, -⟩ := C
  refine lv_ishr hx hb hd ?_
  have e9 : zc G.2.2.1 ad (zI (zshr a b)) = .int _ := congrArg Value.int (Int32.ofInt_toInt _)
  rw [← e9]
  exact kk
theorem zi_c {a : Int} (h0 : 0 ≤ a) (h1 : a < 65536) : ((Int32.ofInt a).toUInt32 % 65536).toInt32 = Int32.ofInt a := by
  have hx9 : Int32.ofInt a = nI a.toNat := by rw [nI, ← Int32.ofInt_eq_ofNat, Int.toNat_of_nonneg h0]
  rw [pk_char, hx9, pk_tn (by omega), Nat.mod_eq_of_lt (by omega)]
theorem wa_i2c {a : Int} (hd : decode Y.2.1 pc = .ok (.i2c, 1)) (hp : pc + 1 = pc') (h0 : 0 ≤ a) (h1 : a < 65536) (k : Wa Y d mc ms n0 Post pc' ls (zI a :: st) w nc ns) : Wa Y d mc ms n0 Post pc ls (zI a :: st) w nc ns := by
  subst hp
  intro p l e R s m args below meth c G A ad0 Qm C F ad H locs lsA hag hst hl
  have kk := k p l e R s m args below meth c G A ad0 Qm C F ad H locs lsA hag hst hl
  obtain ⟨-, hR, hx, hb, hml, -, hown, -, -, -, hT, hE, -⟩ := C
  exact lv_i2c hx hb hd (zi_c h0 h1) kk
theorem wa_lcmpE {a b : Int} (hd : decode Y.2.1 pc = .ok (.lcmp, 1)) (hp : pc + 1 = pc') (hab : a = b) (k : Wa Y d mc ms n0 Post pc' ls (zI 0 :: st) w nc ns) : Wa Y d mc ms n0 Post pc ls (zJ b :: zJ a :: st) w nc ns := by
  subst hp
  intro p l e R s m args below meth c G A ad0 Qm C F ad H locs lsA hag hst hl
  have kk := k p l e R s m args below meth c G A ad0 Qm C F ad H locs lsA hag hst hl
  obtain ⟨-, hR, hx, hb, hml, -, hown, -, -, -, hT, hE, -⟩ := C
  subst hab
  refine W.lcmp hx hb hd ?_
  have e9 : lg_cmp (Int64.ofInt a) (Int64.ofInt a) = Int32.ofInt 0 := by simp [lg_cmp]
  rw [e9]
  exact kk
theorem wa_ldc2 {idx : Nat} {n : Int} (hd : decode Y.2.1 pc = .ok (.ldc2_w idx, 3)) (hp : pc + 3 = pc') (hk : Cond.constantLong Y.1.cls idx (Int64.ofInt n) ∈ lw_tbl) (k : Wa Y d mc ms n0 Post pc' ls (zJ n :: st) w nc ns) : Wa Y d mc ms n0 Post pc ls st w nc ns := by
  subst hp
  intro p l e R s m args below meth c G A ad0 Qm C F ad H locs lsA hag hst hl
  have kk := k p l e R s m args below meth c G A ad0 Qm C F ad H locs lsA hag hst hl
  obtain ⟨-, hR, hx, hb, hml, -, hown, -, -, -, hT, hE, -⟩ := C
  exact lv_ldc2 hx hb hown (hT.at hk (zgood_c _ rfl) _) hd kk
theorem wa_ldcK {idx q : Nat} {tx : String} (hd : decode Y.2.1 pc = .ok (.ldc idx, 2)) (hp : pc + 2 = pc') (hk : ∀ (G : zG) (A : Nat → Prop) (s : State) (H : Heap), zEnv G A s H → vk_R Y.1.cls idx tx (G.2.2.1 q) s) (k : Wa Y d mc ms n0 Post pc' ls (zK q :: st) w nc ns) : Wa Y d mc ms n0 Post pc ls st w nc ns := by
  subst hp
  intro p l e R s m args below meth c G A ad0 Qm C F ad H locs lsA hag hst hl
  have kk := k p l e R s m args below meth c G A ad0 Qm C F ad H locs lsA hag hst hl
  obtain ⟨-, hR, hx, hb, hml, -, hown, -, -, -, hT, hE, -⟩ := C
  exact va_ldcS hx hb hown (hk G A s s.heap hE) hd kk
theorem zi_max {a b : Int} (ha : zin a) (hb : zin b) : (if Int32.ofInt a < Int32.ofInt b then Int32.ofInt b else Int32.ofInt a) = Int32.ofInt (max a b) := by
  by_cases h : a < b
  · rw [if_pos ((zi_lt ha hb).mpr h), Int.max_def, if_pos (by omega)]
  · rw [if_neg (fun h2 => h ((zi_lt ha hb).mp h2)), Int.max_def]
    by_cases h3 : a ≤ b
    · rw [if_pos h3, show a = b by omega]
    · rw [if_neg h3]
theorem zi_abs {a : Int} (ha : zin a) : (if 0 ≤ Int32.ofInt a then Int32.ofInt a else 0 - Int32.ofInt a) = Int32.ofInt (if 0 ≤ a then a else -a) := by
  have z0 : zin 0 := ⟨by omega, by omega⟩
  by_cases h : 0 ≤ a
  · rw [if_pos (show (0 : Int32) ≤ Int32.ofInt a from (zi_le z0 ha).mpr h), if_pos h]
  · rw [if_neg (show ¬ (0 : Int32) ≤ Int32.ofInt a from fun h2 => h ((zi_le z0 ha).mp h2)), if_neg h, Int32.ofInt_neg, Int32.zero_sub]
theorem wa_max {idx : Nat} {a b : Int} (hd : decode Y.2.1 pc = .ok (.invokestatic idx, 3)) (hp : pc + 3 = pc') (h1 : Cond.methodLink Y.1.cls idx Lib.Math.max.name ∈ lw_tbl) (h2 : Cond.static Lib.Math.max.name ∈ lw_tbl) (h3 : Cond.initialized "java/lang/Math" ∈ lw_tbl) (h4 : Cond.code Lib.Math.max.name Lib.Math.max.code 2 (some .int) ∈ lw_tbl) (ha : zin a) (hb9 : zin b) (hd1 : 1 ≤ d) (hcat : (st.map zcat).sum ≤ 8) (hmc : nc ≤ mc) (hms : ns ≤ ms) (k : Wa Y d mc ms n0 Post pc' ls (zI (max a b) :: st) w nc ns) : Wa Y d mc ms n0 Post pc ls (zI b :: zI a :: st) w nc ns := by
  subst hp
  intro p l e R s m args below meth c G A ad0 Qm C F ad H locs lsA hag hst hl
  have kk := k p l e R s m args below meth c G A ad0 Qm C F ad H locs lsA hag hst hl
  obtain ⟨-, hR, hx, hb, hml, -, hown, -, -, -, hT, hE, -⟩ := C
  refine va_mmax hx hb (hml.trans hl.1.symm) hown (hT.at h1 (zgood_c _ rfl) _) (hT.at h2 (zgood_c _ rfl) _) (hT.at h3 (zgood_c _ rfl) _) (hT.at h4 (zgood_c _ rfl) _) (by omega) (by have := z_cat (ac := G.2.2.1) (ad := ad) hcat; omega) (by omega) (by omega) hd ?_
  rw [zi_max ha hb9]
  exact kk
theorem wa_abs {idx : Nat} {a : Int} (hd : decode Y.2.1 pc = .ok (.invokestatic idx, 3)) (hp : pc + 3 = pc') (h1 : Cond.methodLink Y.1.cls idx Lib.Math.abs.name ∈ lw_tbl) (h2 : Cond.static Lib.Math.abs.name ∈ lw_tbl) (h3 : Cond.initialized "java/lang/Math" ∈ lw_tbl) (h4 : Cond.code Lib.Math.abs.name Lib.Math.abs.code 1 (some .int) ∈ lw_tbl) (ha : zin a) (hd1 : 1 ≤ d) (hcat : (st.map zcat).sum ≤ 8) (hmc : nc ≤ mc) (hms : ns ≤ ms) (k : Wa Y d mc ms n0 Post pc' ls (zI (if 0 ≤ a then a else -a) :: st) w nc ns) : Wa Y d mc ms n0 Post pc ls (zI a :: st) w nc ns := by
  subst hp
  intro p l e R s m args below meth c G A ad0 Qm C F ad H locs lsA hag hst hl
  have kk := k p l e R s m args below meth c G A ad0 Qm C F ad H locs lsA hag hst hl
  obtain ⟨-, hR, hx, hb, hml, -, hown, -, -, -, hT, hE, -⟩ := C
  refine va_mabs hx hb (hml.trans hl.1.symm) hown (hT.at h1 (zgood_c _ rfl) _) (hT.at h2 (zgood_c _ rfl) _) (hT.at h3 (zgood_c _ rfl) _) (hT.at h4 (zgood_c _ rfl) _) (by omega) (by have := z_cat (ac := G.2.2.1) (ad := ad) hcat; omega) (by omega) (by omega) hd ?_
  rw [zi_abs ha]
  exact kk
/-- n values of f from sp on, laid into g from dp on -/
def zcpy (f g : Int → Int) (sp dp n : Int) : Int → Int := fun j => if dp ≤ j ∧ j < dp + n then f (sp + (j - dp)) else g j
theorem zcpy_c (f g : Int → Int) {sp dp n : Int} (h1 : 0 ≤ sp) (h2 : 0 ≤ dp) (h3 : 0 ≤ n) : va_cpy (fun j : Nat => Int32.ofInt (f j)) (fun j : Nat => Int32.ofInt (g j)) sp.toNat dp.toNat n.toNat = fun j : Nat => Int32.ofInt (zcpy f g sp dp n j) := by
  funext j
  simp only [va_cpy, zcpy]
  by_cases h : dp ≤ (j : Int) ∧ (j : Int) < dp + n
  · rw [if_pos h, if_pos (by omega), show ((sp.toNat + (j - dp.toNat) : Nat) : Int) = sp + (j - dp) by omega]
  · rw [if_neg h, if_neg (by omega)]
theorem wa_copyI {idx k0 k1 n1 n2 : Nat} {f g : Int → Int} {sp dp n : Int} {w' : List zE} (hd : decode Y.2.1 pc = .ok (.invokestatic idx, 3)) (hp : pc + 3 = pc') (hlink : Cond.methodLink Y.1.cls idx arraycopyName ∈ lw_tbl) (h4 : Cond.native arraycopyName ∈ lw_tbl) (h5 : Cond.static arraycopyName ∈ lw_tbl) (h6 : Cond.initialized "java/lang/System" ∈ lw_tbl) (he0 : w[k0]? = some (zA 0 n1 f)) (he1 : w[k1]? = some (zA 0 n2 g)) (hs0 : 0 ≤ sp) (hd0 : 0 ≤ dp) (hn0 : 0 ≤ n) (hs1 : sp + n ≤ n1) (hd2 : dp + n ≤ n2) (hn1 : n1 < 2147483648) (hn2 : n2 < 2147483648) (hd1 : 1 ≤ d) (hcat : (st.map zcat).sum ≤ 8) (hw : w.set k1 (zA 0 n2 (zcpy f g sp dp n)) = w') (k9 : Wa Y d mc ms n0 Post pc' ls st w' nc ns) : Wa Y d mc ms n0 Post pc ls (zI n :: zI dp :: zR k1 :: zI sp :: zR k0 :: st) w nc ns := by
  subst hw
  subst hp
  intro p l e R s m args below meth c G A ad0 Qm C9 F ad H locs lsA hag hst hl
  obtain ⟨hfl, hR, hx, hb, hml, hr, hown, hlk, hnm, htb, hT, hE, hA⟩ := id C9
  obtain ⟨hP, hD, hS⟩ := id hst
  have z0 : zin 0 := ⟨by omega, by omega⟩
  have zs : zin sp := ⟨by omega, by omega⟩
  have zd : zin dp := ⟨by omega, by omega⟩
  have zn : zin n := ⟨by omega, by omega⟩
  have hloc : ((st.map (zc G.2.2.1 ad)).map fun v => v.category).sum + (nativeFrameWords "java/lang/System" "arraycopy" 5 + 11) ≤ R.locals := by
    have h8 := z_cat (ac := G.2.2.1) (ad := ad) hcat
    have e9 : nativeFrameWords "java/lang/System" "arraycopy" 5 ≤ 14 := by decide +kernel
    omega
  refine va_copyi hx hb (hml.trans hl.1.symm) hown (hT.at hlink (zgood_c _ rfl) _) (hT.at h4 (zgood_c _ rfl) _) (hT.at h5 (zgood_c _ rfl) _) (hT.at h6 (zgood_c _ rfl) _) hE.1.1 hP hD hS k0 k1 0 0 (zw_get he0) (zw_get he1) (ty := .int) rfl rfl rfl (fun h => by have := (zi_lt zs z0).mp h; omega) (fun h => by have := (zi_lt zd z0).mp h; omega) (fun h => by have := (zi_lt zn z0).mp h; omega) (by rw [zi_cl zs, zi_cl zn]; omega) (by rw [zi_cl zd, zi_cl zn]; omega) (fun _ _ => rfl) (by omega) hloc hd (fun H1 locs1 hP1 hD1 hS1 => ?_)
  refine Wa.wW k9 C9 F (by rw [List.length_set]; exact hag) ?_ ⟨hP1, hD1, hS1⟩ hl
  rw [zw_set, zi_cl zs, zi_cl zd, zi_cl zn, zcpy_c f g hs0 hd0 hn0]
  rfl
theorem wa_copyC {idx k0 k1 n1 n2 : Nat} {f g : Int → Int} {sp dp n : Int} {w' : List zE} (hd : decode Y.2.1 pc = .ok (.invokestatic idx, 3)) (hp : pc + 3 = pc') (hlink : Cond.methodLink Y.1.cls idx arraycopyName ∈ lw_tbl) (h4 : Cond.native arraycopyName ∈ lw_tbl) (h5 : Cond.static arraycopyName ∈ lw_tbl) (h6 : Cond.initialized "java/lang/System" ∈ lw_tbl) (he0 : w[k0]? = some (zA 1 n1 f)) (he1 : w[k1]? = some (zA 1 n2 g)) (hs0 : 0 ≤ sp) (hd0 : 0 ≤ dp) (hn0 : 0 ≤ n) (hs1 : sp + n ≤ n1) (hd2 : dp + n ≤ n2) (hn1 : n1 < 2147483648) (hn2 : n2 < 2147483648) (hfit : ∀ j : Int, sp ≤ j → j < sp + n → 0 ≤ f j ∧ f j < 65536) (hd1 : 1 ≤ d) (hcat : (st.map zcat).sum ≤ 8) (hw : w.set k1 (zA 1 n2 (zcpy f g sp dp n)) = w') (k9 : Wa Y d mc ms n0 Post pc' ls st w' nc ns) : Wa Y d mc ms n0 Post pc ls (zI n :: zI dp :: zR k1 :: zI sp :: zR k0 :: st) w nc ns := by
  subst hw
  subst hp
  intro p l e R s m args below meth c G A ad0 Qm C9 F ad H locs lsA hag hst hl
  obtain ⟨hfl, hR, hx, hb, hml, hr, hown, hlk, hnm, htb, hT, hE, hA⟩ := id C9
  obtain ⟨hP, hD, hS⟩ := id hst
  have z0 : zin 0 := ⟨by omega, by omega⟩
  have zs : zin sp := ⟨by omega, by omega⟩
  have zd : zin dp := ⟨by omega, by omega⟩
  have zn : zin n := ⟨by omega, by omega⟩
  have hloc : ((st.map (zc G.2.2.1 ad)).map fun v => v.category).sum + (nativeFrameWords "java/lang/System" "arraycopy" 5 + 11) ≤ R.locals := by
    have h8 := z_cat (ac := G.2.2.1) (ad := ad) hcat
    have e9 : nativeFrameWords "java/lang/System" "arraycopy" 5 ≤ 14 := by decide +kernel
    omega
  refine va_copyi hx hb (hml.trans hl.1.symm) hown (hT.at hlink (zgood_c _ rfl) _) (hT.at h4 (zgood_c _ rfl) _) (hT.at h5 (zgood_c _ rfl) _) (hT.at h6 (zgood_c _ rfl) _) hE.1.1 hP hD hS k0 k1 1 1 (zw_get he0) (zw_get he1) (ty := .char) rfl rfl rfl (fun h => by have := (zi_lt zs z0).mp h; omega) (fun h => by have := (zi_lt zd z0).mp h; omega) (fun h => by have := (zi_lt zn z0).mp h; omega) (by rw [zi_cl zs, zi_cl zn]; omega) (by rw [zi_cl zd, zi_cl zn]; omega) (fun i hi => by
      rw [zi_cl ⟨by omega, by omega⟩] at hi
      obtain ⟨f0, f1⟩ := hfit (sp + i) (by omega) (by omega)
      have e8 : (((Int32.ofInt sp).toNatClampNeg + i : Nat) : Int) = sp + i := by rw [zi_cl ⟨by omega, by omega⟩]; omega
      show fits .char (.int (Int32.ofInt (f (((Int32.ofInt sp).toNatClampNeg + i : Nat) : Int)))) = true
      rw [e8]
      have hx9 : Int32.ofInt (f (sp + i)) = nI (f (sp + i)).toNat := by rw [nI, ← Int32.ofInt_eq_ofNat, Int.toNat_of_nonneg f0]
      rw [hx9]
      exact (pk_charN (by omega)).2) (by omega) hloc hd (fun H1 locs1 hP1 hD1 hS1 => ?_)
  refine Wa.wW k9 C9 F (by rw [List.length_set]; exact hag) ?_ ⟨hP1, hD1, hS1⟩ hl
  rw [zw_set, zi_cl zs, zi_cl zd, zi_cl zn, zcpy_c f g hs0 hd0 hn0]
  rfl
theorem wa_iret {n : Int} (hd : decode Y.2.1 pc = .ok (.ireturn, 1)) (hr : Y.2.2.2.1 = some .int) (hc : nc ≤ mc) (hs : ns ≤ ms) (hpost : Post (.inl (some (zI n))) w) : Wa Y d mc ms n0 Post pc ls [zI n] w nc ns := wa_ret (v := some (zI n)) hpost ⟨hd, Or.inl hr⟩ hc hs rfl
theorem wa_zret {n : Int} (hd : decode Y.2.1 pc = .ok (.ireturn, 1)) (hr : Y.2.2.2.1 = some .boolean) (hc : nc ≤ mc) (hs : ns ≤ ms) (hz : n = 0 ∨ n = 1) (hpost : Post (.inl (some (zI n))) w) : Wa Y d mc ms n0 Post pc ls [zI n] w nc ns := wa_ret (v := some (zI n)) hpost ⟨hd, Or.inr (Or.inl ⟨hr, hz⟩)⟩ hc hs rfl
theorem wa_cret {n : Int} (hd : decode Y.2.1 pc = .ok (.ireturn, 1)) (hr : Y.2.2.2.1 = some .char) (hc : nc ≤ mc) (hs : ns ≤ ms) (h0 : 0 ≤ n) (h1 : n < 65536) (hpost : Post (.inl (some (zI n))) w) : Wa Y d mc ms n0 Post pc ls [zI n] w nc ns := wa_ret (v := some (zI n)) hpost ⟨hd, Or.inr (Or.inr (Or.inl ⟨hr, h0, h1⟩))⟩ hc hs rfl
theorem wa_bret {n : Int} (hd : decode Y.2.1 pc = .ok (.ireturn, 1)) (hr : Y.2.2.2.1 = some .byte) (hc : nc ≤ mc) (hs : ns ≤ ms) (h0 : 0 ≤ n) (h1 : n < 128) (hpost : Post (.inl (some (zI n))) w) : Wa Y d mc ms n0 Post pc ls [zI n] w nc ns := wa_ret (v := some (zI n)) hpost ⟨hd, Or.inr (Or.inr (Or.inr ⟨hr, h0, h1⟩))⟩ hc hs rfl
theorem wa_lret {n : Int} (hd : decode Y.2.1 pc = .ok (.lreturn, 1)) (hr : Y.2.2.2.1 = some .long) (hc : nc ≤ mc) (hs : ns ≤ ms) (hpost : Post (.inl (some (zJ n))) w) : Wa Y d mc ms n0 Post pc ls [zJ n] w nc ns := wa_ret (v := some (zJ n)) hpost ⟨hd, hr⟩ hc hs rfl
theorem wa_vret (hd : decode Y.2.1 pc = .ok (.return_, 1)) (hr : Y.2.2.2.1 = none) (hc : nc ≤ mc) (hs : ns ≤ ms) (hpost : Post (.inl none) w) : Wa Y d mc ms n0 Post pc ls [] w nc ns := wa_ret (v := none) hpost ⟨hr, hd⟩ hc hs rfl
theorem wa_aret {x : Option (Nat ⊕ Nat)} {cn : String} (hd : decode Y.2.1 pc = .ok (.areturn, 1)) (hr : Y.2.2.2.1 = some (.object cn)) (hc : nc ≤ mc) (hs : ns ≤ ms) (hpost : Post (.inl (some (.inr (.inr x)))) w) : Wa Y d mc ms n0 Post pc ls [.inr (.inr x)] w nc ns := wa_ret (v := some (.inr (.inr x))) hpost ⟨hd, cn, hr⟩ hc hs rfl
end ZD
theorem zD_i {v v' : Option zV} {w w' : List zE} (h1 : v = v') (h2 : w = w') : zD v' w' (.inl v) w := ⟨congrArg _ h1, h2⟩
