/-! TABLES 2, by program: long constants, natives, throws; what the constants are -/
theorem ki_J11_110 : Cond.constant RJ11 110 (Int32.ofInt 55232) ∈ lw_tbl := List.mem_of_getElem? (i := 345) (by decide +kernel)
theorem ki_J11_76 : Cond.constant RJ11 76 (Int32.ofInt 56320) ∈ lw_tbl := List.mem_of_getElem? (i := 349) (by decide +kernel)
theorem lmm_J1_92 : Cond.methodLink RJ1 92 Lib.Math.max.name ∈ lw_tbl := List.mem_of_getElem? (i := 292) (by decide +kernel)
theorem lmm_J2_224 : Cond.methodLink RJ2 224 Lib.Math.max.name ∈ lw_tbl := List.mem_of_getElem? (i := 304) (by decide +kernel)
theorem ki_J2_227 : Cond.constant RJ2 227 (Int32.ofInt 65536) ∈ lw_tbl := List.mem_of_getElem? (i := 306) (by decide +kernel)
theorem ki_J6_265 : Cond.constant RJ6 265 (Int32.ofInt 1431655765) ∈ lw_tbl := List.mem_of_getElem? (i := 882) (by decide +kernel)
theorem ki_J6_266 : Cond.constant RJ6 266 (Int32.ofInt 858993459) ∈ lw_tbl := List.mem_of_getElem? (i := 883) (by decide +kernel)
theorem ki_J6_267 : Cond.constant RJ6 267 (Int32.ofInt 252645135) ∈ lw_tbl := List.mem_of_getElem? (i := 884) (by decide +kernel)
theorem ki_L_7 : Cond.constant RL 7 (Int32.ofInt 763049417) ∈ lw_tbl := List.mem_of_getElem? (i := 536) (by decide +kernel)
theorem kl_L_20 : Cond.constantLong RL 20 (Int64.ofInt 109) ∈ lw_tbl := List.mem_of_getElem? (i := 792) (by decide +kernel)
theorem kl_L_22 : Cond.constantLong RL 22 (Int64.ofInt 55) ∈ lw_tbl := List.mem_of_getElem? (i := 793) (by decide +kernel)
theorem kl_L_24 : Cond.constantLong RL 24 (Int64.ofInt 27959) ∈ lw_tbl := List.mem_of_getElem? (i := 794) (by decide +kernel)
theorem kl_L_26 : Cond.constantLong RL 26 (Int64.ofInt 1835100727) ∈ lw_tbl := List.mem_of_getElem? (i := 795) (by decide +kernel)
theorem kl_L_28 : Cond.constantLong RL 28 (Int64.ofInt 6580589) ∈ lw_tbl := List.mem_of_getElem? (i := 796) (by decide +kernel)
theorem kl_L_30 : Cond.constantLong RL 30 (Int64.ofInt 6387047) ∈ lw_tbl := List.mem_of_getElem? (i := 797) (by decide +kernel)
theorem kl_L_32 : Cond.constantLong RL 32 (Int64.ofInt 1937077044) ∈ lw_tbl := List.mem_of_getElem? (i := 798) (by decide +kernel)
theorem kl_L_34 : Cond.constantLong RL 34 (Int64.ofInt 54) ∈ lw_tbl := List.mem_of_getElem? (i := 799) (by decide +kernel)
theorem kl_L_36 : Cond.constantLong RL 36 (Int64.ofInt 57) ∈ lw_tbl := List.mem_of_getElem? (i := 800) (by decide +kernel)
theorem ki_L_8 : Cond.constant RL 8 (Int32.ofInt 2147483647) ∈ lw_tbl := List.mem_of_getElem? (i := 540) (by decide +kernel)
theorem lmm_X3_60 : Cond.methodLink RX3 60 Lib.Math.max.name ∈ lw_tbl := List.mem_of_getElem? (i := 963) (by decide +kernel)
theorem lmm_X4_45 : Cond.methodLink RX4 45 Lib.Math.abs.name ∈ lw_tbl := List.mem_of_getElem? (i := 839) (by decide +kernel)
theorem lmm_X6_58 : Cond.methodLink RX6 58 Lib.Math.max.name ∈ lw_tbl := List.mem_of_getElem? (i := 428) (by decide +kernel)
theorem kl_X8_108 : Cond.constantLong RX8 108 (Int64.ofInt 31) ∈ lw_tbl := List.mem_of_getElem? (i := 664) (by decide +kernel)
theorem lmc_X8_26 : Cond.methodLink RX8 26 arraycopyName ∈ lw_tbl := List.mem_of_getElem? (i := 417) (by decide +kernel)
theorem zx_X9_76_80 : zXs RX9 76 80 "java/lang/IllegalStateException" := ⟨by decide +kernel, by decide +kernel, List.mem_of_getElem? (i := 553) (by decide +kernel), List.mem_of_getElem? (i := 33) (by decide +kernel), by decide +kernel, by decide +kernel⟩
theorem zx_X9_122_126 : zXs RX9 122 126 "java/lang/IndexOutOfBoundsException" := ⟨by decide +kernel, by decide +kernel, List.mem_of_getElem? (i := 687) (by decide +kernel), List.mem_of_getElem? (i := 37) (by decide +kernel), by decide +kernel, by decide +kernel⟩
theorem zx_X9_65_69 : zXs RX9 65 69 "java/lang/IllegalArgumentException" := ⟨by decide +kernel, by decide +kernel, List.mem_of_getElem? (i := 636) (by decide +kernel), List.mem_of_getElem? (i := 46) (by decide +kernel), by decide +kernel, by decide +kernel⟩
theorem kl_X9_260 : Cond.constantLong RX9 260 (Int64.ofInt 47) ∈ lw_tbl := List.mem_of_getElem? (i := 659) (by decide +kernel)
theorem kl_X9_266 : Cond.constantLong RX9 266 (Int64.ofInt 31) ∈ lw_tbl := List.mem_of_getElem? (i := 669) (by decide +kernel)
theorem zl_nat : Cond.native arraycopyName ∈ lw_tbl := List.mem_of_getElem? (i := 419) (by decide +kernel)
theorem zl_sta : Cond.static arraycopyName ∈ lw_tbl := List.mem_of_getElem? (i := 418) (by decide +kernel)
theorem zl_sys : Cond.initialized "java/lang/System" ∈ lw_tbl := List.mem_of_getElem? (i := 35) (by decide +kernel)
theorem zl_math : Cond.initialized "java/lang/Math" ∈ lw_tbl := List.mem_of_getElem? (i := 34) (by decide +kernel)
theorem zl_max1 : Cond.static Lib.Math.max.name ∈ lw_tbl := List.mem_of_getElem? (i := 293) (by decide +kernel)
theorem zl_max2 : Cond.code Lib.Math.max.name Lib.Math.max.code 2 (some .int) ∈ lw_tbl := List.mem_of_getElem? (i := 294) (by decide +kernel)
theorem zl_abs1 : Cond.static Lib.Math.abs.name ∈ lw_tbl := List.mem_of_getElem? (i := 840) (by decide +kernel)
theorem zl_abs2 : Cond.code Lib.Math.abs.name Lib.Math.abs.code 1 (some .int) ∈ lw_tbl := List.mem_of_getElem? (i := 841) (by decide +kernel)
theorem zk_coder {q : Nat} (hq : q < 11) : ∀ (G : zG) (A : Nat → Prop) (s : State) (H : Heap) (ad : Nat → Nat), zEnv G A s H → va_OF "java/lang/String" "coder" "B" (zc G.2.2.1 ad (zI 0)) (G.2.2.1 (11 + q)) A s H := fun _ _ _ _ _ h => (h.2.2.2.2.2.2.1 q hq).2.1
theorem zk_value {q : Nat} (hq : q < 11) : ∀ (G : zG) (A : Nat → Prop) (s : State) (H : Heap) (ad : Nat → Nat), zEnv G A s H → va_OF "java/lang/String" "value" "[B" (zc G.2.2.1 ad (zK (30 + q))) (G.2.2.1 (11 + q)) A s H := fun _ _ _ _ _ h => (h.2.2.2.2.2.2.1 q hq).2.2.1
theorem zk_str {q : Nat} (hq : q < 11) : ∀ (G : zG) (A : Nat → Prop) (s : State) (H : Heap), zEnv G A s H → va_O "java/lang/String" (G.2.2.1 (11 + q)) A s H := fun _ _ _ _ h => (h.2.2.2.2.2.2.1 q hq).1
theorem zk_bytes {q : Nat} (hq : q < 11) : ∀ (G : zG) (A : Nat → Prop) (s : State) (H : Heap), zEnv G A s H → va_T .byte (G.2.2.1 (30 + q)) (zBytes.getD q []).length (fun j => .int (Int32.ofInt ((zBytes.getD q []).getD j 0))) A s H := fun _ _ _ _ h => (h.2.2.2.2.2.2.1 q hq).2.2.2
theorem zk_compact : ∀ (G : zG) (A : Nat → Prop) (s : State) (H : Heap), zEnv G A s H → va_Z "java/lang/String" "COMPACT_STRINGS" "Z" (.int (Int32.ofInt 1)) A s H := fun _ _ _ _ h => h.2.2.1.2.2
theorem zk_all : ∀ (G : zG) (A : Nat → Prop) (s : State) (H : Heap), zEnv G A s H → va_Z "ChordSheet$Quality" "ALL" "[LChordSheet$Quality;" (.ref (G.2.2.1 10)) A s H := fun _ _ _ _ h => h.2.2.1.1
theorem zk_major : ∀ (G : zG) (A : Nat → Prop) (s : State) (H : Heap), zEnv G A s H → va_Z "ChordSheet$Quality" "MAJOR" "LChordSheet$Quality;" (.ref (G.2.2.1 0)) A s H := fun _ _ _ _ h => h.2.2.1.2.1
theorem zk_allT : ∀ (G : zG) (A : Nat → Prop) (s : State) (H : Heap), zEnv G A s H → va_T (.object "ChordSheet$Quality") (G.2.2.1 10) 10 (fun j => .ref (G.2.2.1 j)) A s H := fun _ _ _ _ h => h.2.2.2.1.1
theorem zk_q {q : Nat} (hq : q < 10) : ∀ (G : zG) (A : Nat → Prop) (s : State) (H : Heap), zEnv G A s H → va_O "ChordSheet$Quality" (G.2.2.1 q) A s H := fun _ _ _ _ h => h.2.2.2.2.1 q hq
theorem zk_suffix {q : Nat} (hq : q < 10) : ∀ (G : zG) (A : Nat → Prop) (s : State) (H : Heap) (ad : Nat → Nat), zEnv G A s H → va_OF "ChordSheet$Quality" "suffix" "Ljava/lang/String;" (zc G.2.2.1 ad (zK (11 + q))) (G.2.2.1 q) A s H := fun _ _ _ _ _ h => h.2.2.2.2.2.1.1 q hq
theorem zk_tones {q : Nat} (hq : q < 10) : ∀ (G : zG) (A : Nat → Prop) (s : State) (H : Heap) (ad : Nat → Nat), zEnv G A s H → va_OF "ChordSheet$Quality" "tones" "I" (zc G.2.2.1 ad (zI (zTones.getD q 0))) (G.2.2.1 q) A s H := fun _ _ _ _ _ h => h.2.2.2.2.2.1.2.1 q hq
theorem zk_easy {q : Nat} (hq : q < 10) : ∀ (G : zG) (A : Nat → Prop) (s : State) (H : Heap) (ad : Nat → Nat), zEnv G A s H → va_OF "ChordSheet$Quality" "easyRoots" "I" (zc G.2.2.1 ad (zI (zEasy.getD q 0))) (G.2.2.1 q) A s H := fun _ _ _ _ _ h => h.2.2.2.2.2.1.2.2.1 q hq
theorem zk_minor {q : Nat} (hq : q < 10) : ∀ (G : zG) (A : Nat → Prop) (s : State) (H : Heap) (ad : Nat → Nat), zEnv G A s H → va_OF "ChordSheet$Quality" "minor" "Z" (zc G.2.2.1 ad (zI (zMinor.getD q 0))) (G.2.2.1 q) A s H := fun _ _ _ _ _ h => h.2.2.2.2.2.1.2.2.2 q hq
theorem zk_let : ∀ (G : zG) (A : Nat → Prop) (s : State) (H : Heap), zEnv G A s H → vk_R "ChordSheet$Notes" 17 "FCGDAEB" (G.2.2.1 21) s := fun _ _ _ _ h => h.2.2.2.2.2.2.2.1.1
section ZU
variable {Y Y1 : zY} {d d1 mc ms mc1 ms1 n0 : Nat} {Post Post1 : zP → List zE → Prop} {pc pc' : Nat} {ls : List (Nat × zV)} {st stk as : List zV} {w w1 : List zE} {nc ns : Nat} {ρ : List Nat}
theorem wa_sioobe {idx : Nat} (hlink : Cond.fieldLink Y.1.cls idx "jdk/internal/util/Preconditions" "SIOOBE_FORMATTER" "Ljava/util/function/BiFunction;" ∈ lw_tbl) (hd : decode Y.2.1 pc = .ok (.getstatic idx, 3)) (hp : pc + 3 = pc') (k : ∀ x : Option (Nat ⊕ Nat), Wa Y d mc ms n0 Post pc' ls (.inr (.inr x) :: st) w nc ns) : Wa Y d mc ms n0 Post pc ls st w nc ns := by
  subst hp
  intro p l e R s m args below meth c G A ad0 Qm C9 F ad H locs lsA hag hst hl
  have k1 := k none p l e R s m args below meth c G A ad0 Qm C9 F ad H locs lsA hag hst hl
  have k2 := k (some (.inr 60)) p l e R s m args below meth c G A ad0 Qm C9 F ad H locs lsA hag hst hl
  obtain ⟨hfl, hR, hx, hb, hml, hr, hown, hlk, hnm, htb, hT, hE, hA⟩ := id C9
  obtain ⟨hP, hD, hS⟩ := id hst
  rcases hE.2.2.2.2.2.2.2.2.2 with h | h
  · exact va_gets hx hb h hS hown (hT.at hlink (zgood_c _ rfl) _) (fun _ h9 => h9) hd k1
  · exact va_gets hx hb h hS hown (hT.at hlink (zgood_c _ rfl) _) (fun _ h9 => h9) hd k2
/-- the answer v where P, else the throw E and nothing changed -/
def zT (P : Prop) (v : Option zV) (w2 : List zE) (E : String) (w : List zE) : zP → List zE → Prop := fun o w' => (P ∧ o = .inl v ∧ w' = w2) ∨ (¬ P ∧ o = .inr E ∧ w' = w)
theorem zT_v {P : Prop} {v v' : Option zV} {w w' w2 : List zE} {E : String} (hP : P) (h1 : v = v') (h2 : w = w') : zT P v' w' E w2 (.inl v) w := Or.inl ⟨hP, congrArg _ h1, h2⟩
theorem zT_x {P : Prop} {v' : Option zV} {w w' w2 : List zE} {E : String} (hP : ¬ P) (h2 : w = w2) : zT P v' w' E w2 (.inr E) w := Or.inr ⟨hP, rfl, h2⟩
theorem zins_id {w w1 : List zE} {ρ : List Nat} (hsub : ρ.map (fun i => w[i]?) = w1.map fun e => some (zre ρ e)) (hn : ρ.Nodup) : zins (zre ρ) ρ w1 w = w := by
  have hρl : ρ.length = w1.length := by have := congrArg List.length hsub; simpa using this
  apply List.ext_getElem?
  intro k
  by_cases hk : k ∈ ρ
  · obtain ⟨j, hj⟩ := List.getElem?_of_mem hk
    have hjl : j < w1.length := by rw [← hρl]; exact (List.getElem?_eq_some_iff.mp hj).1
    have h2 : (ρ.map (fun i => w[i]?))[j]? = (w1.map fun e => some (zre ρ e))[j]? := by rw [hsub]
    rw [List.getElem?_map, hj, List.getElem?_map, List.getElem?_eq_getElem hjl] at h2
    have h3 : w[k]? = some (zre ρ w1[j]) := Option.some.inj h2
    rw [zins_in (zre ρ) ρ w1 w j k _ hn hj (List.getElem?_eq_getElem hjl) (List.getElem?_eq_some_iff.mp h3).1, h3]
  · exact zins_out _ _ _ _ _ hk
theorem wa_tV {q ci : Nat} {fs : List zV} {vc : vw_C} {idx n : Nat} {v : Option zV} {w2 w' : List zE} {st' : List zV} {P : Prop} {E : String} (M : zMet Y1 d1 mc1 ms1 (zR q :: as) w1 (zT P v w2 E w1)) (hO : zOkV Y1 n) (hlink : Cond.methodLink Y.1.cls idx Y1.1 ∈ lw_tbl) (hd : decode Y.2.1 pc = .ok (.invokevirtual idx, 3)) (hp : pc + 3 = pc') (ρ : List Nat) (hsub : ρ.map (fun i => w[i]?) = w1.map fun e => some (zre ρ e)) (hn : ρ.Nodup) (hstk : (as.map (zrv ρ)).reverse ++ zR (ρ.getD q 0) :: st = stk) (hna : as.length = n) (hq : w1[q]? = some (zO ci fs)) (hvc : vwCl[ci]? = some vc) (hcls : vc.1 = Y1.1.cls) (hd1 : d1 + 1 ≤ d) (hcat : (st.map zcat).sum ≤ 8) (hh : Y.2.2.2.2 = []) (hmc : nc + mc1 ≤ mc) (hms : ns + ms1 ≤ ms) (hlen : w2.length = w1.length) (hw : zins (zre ρ) ρ w2 w = w') (hv : (v.map (zrv ρ)).toList ++ st = st')
    (kx : ¬ P → Post (.inr E) w) (k : P → Wa Y d mc ms n0 Post pc' ls st' w' (nc + mc1) (ns + ms1)) : Wa Y d mc ms n0 Post pc ls stk w nc ns := by
  subst hw
  subst hv
  refine wa_callV M hO hlink hd hp ρ hsub hn hstk hna hq hvc hcls hd1 hcat hh hmc hms ?_ ?_ ?_
  · rintro o w' (⟨_, _, h⟩ | ⟨_, _, h⟩)
    · rw [h]; exact hlen
    · rw [h]
  · rintro E' w1' (⟨_, h, _⟩ | ⟨hP, h, h2⟩)
    · cases h
    · cases h
      rw [h2, zins_id hsub hn]
      exact kx hP
  · rintro v' w1' (⟨hP, h, h2⟩ | ⟨_, h, _⟩)
    · cases h
      rw [h2]
      exact k hP
    · cases h
end ZU
