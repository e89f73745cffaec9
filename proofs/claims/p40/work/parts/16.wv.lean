/-! THE LAYER, 5: further instructions; numbers -/
def zxor (a b : Int) : Int := (Int32.ofInt a ^^^ Int32.ofInt b).toInt
def zushr (a b : Int) : Int := ((Int32.ofInt a).toUInt32 >>> ((Int32.ofInt b).toUInt32 &&& Int32.toUInt32 31)).toInt32.toInt
theorem zin_to (x : Int32) : zin x.toInt := by
  have h1 := Int32.le_toInt x
  have h2 := Int32.toInt_lt x
  exact ⟨by omega, by omega⟩
theorem zxor_in (a b : Int) : zin (zxor a b) := zin_to _
theorem zxor_sgn {a b : Int} (ha : zin a) (hb : zin b) (h0 : 0 ≤ b) : 0 ≤ zxor a b ↔ 0 ≤ a := by
  have hm : ∀ x : Int32, 0 ≤ x.toInt ↔ x.toBitVec.msb = false := by
    intro x
    rw [← Int32.toInt_toBitVec, BitVec.msb_eq_toInt]
    simp
  have h1 : (Int32.ofInt b).toBitVec.msb = false := (hm _).mp (by rw [zin_t hb]; exact h0)
  have h2 : 0 ≤ a ↔ (Int32.ofInt a).toBitVec.msb = false := by rw [← hm, zin_t ha]
  unfold zxor
  rw [hm, h2, Int32.toBitVec_xor, BitVec.msb_xor, h1, Bool.xor_false]
theorem z_tdiv {a b : Int} (ha : zin a) (hb : 0 < b) : zin (a.tdiv b) := by
  have h := Int.natAbs_tdiv_le_natAbs a b
  obtain ⟨h1, h2⟩ := ha
  by_cases h3 : 0 ≤ a
  · have := Int.tdiv_nonneg h3 (Int.le_of_lt hb)
    exact ⟨by omega, by omega⟩
  · have h4 := Int.tdiv_nonneg (show 0 ≤ -a by omega) (Int.le_of_lt hb)
    rw [Int.neg_tdiv] at h4
    exact ⟨by omega, by omega⟩
theorem z_tmod_neg {a b : Int} (ha : a < 0) (hb : 0 < b) : (a.tmod b = 0 → a % b = 0) ∧ (¬ a.tmod b = 0 → a % b = a.tmod b + b) := by
  have h := Int.tmod_eq_emod (a := a) (b := b)
  have h2 := Int.emod_nonneg a (show b ≠ 0 by omega)
  have h3 := Int.emod_lt_of_pos a hb
  have h4 : (b.natAbs : Int) = b := by omega
  split at h
  · rename_i hd
    rcases hd with hd | hd
    · omega
    · have := Int.emod_eq_zero_of_dvd hd
      exact ⟨fun _ => this, fun hn => absurd (by omega) hn⟩
  · rename_i hd
    exact ⟨fun h0 => by omega, fun _ => by omega⟩
theorem z_tmod_pos {a b : Int} (ha : 0 ≤ a) : a.tmod b = a % b := Int.tmod_eq_emod_of_nonneg ha
theorem z_tdiv_pos {a b : Int} (ha : 0 ≤ a) : a.tdiv b = a / b := Int.tdiv_eq_ediv_of_nonneg ha
theorem z_fd1 {a b : Int} (hb : 0 < b) (h : a.tdiv b * b = a) : a.tdiv b = a / b := by
  have h1 : (a.tdiv b * b) / b = a.tdiv b := Int.mul_ediv_cancel _ (by omega)
  rw [h] at h1
  exact h1.symm
theorem z_fd2 {a b : Int} (hb : 0 < b) (ha : a < 0) (h : ¬ a.tdiv b * b = a) : a.tdiv b - 1 = a / b := by
  have h1 := Int.mul_tdiv_add_tmod a b
  have h2 := Int.mul_comm b (a.tdiv b)
  have h3 : ¬ a.tmod b = 0 := by omega
  have h4 := (z_tmod_neg ha hb).2 h3
  have h5 := Int.mul_ediv_add_emod a b
  have h6 : b * (a.tdiv b - 1) = b * (a / b) := by rw [Int.mul_sub, Int.mul_one]; omega
  exact Int.eq_of_mul_eq_mul_left (by omega) h6
theorem vx_ofWF {l : Launch} {y : MethodName} {ws ws' : List Cond} {rm : Room} {Pc : Array Value → State → Prop} {Qc : Array Value → State → Outcome → State → Prop} {XC : String → State → State → Prop} {mc ms : Nat} {free : Addr → Prop} {cc : ByteArray} {maxL : Nat} {ret : Option FieldType}
    (hy : plainFor y = true) (hw : ws = Cond.code y cc maxL ret :: ws')
    (body : ∀ p e s m args below meth c s₁, BodyLoose p l y (headSpec ws rm) cc maxL ret e s m args below meth c s₁ → c.maxLocals = maxL → (∀ x ∈ c.exceptionTable.toList, False) → Pc args s →
      W p l e (headSpec ws rm).room s m args below meth c s.heap [] 0 0 (vx_MQ below Qc XC args s mc ms free) (entryFrame m args maxL)) : vx_Met l y ws rm Pc Qc XC mc ms free := by
  refine MetFree.of_bodySF (code := cc) (maxLocals := maxL) (ret := ret) hy ?_ ?_
  · intro args s m h hn
    obtain ⟨meth, c, h1, h2, h3, h4, h5, h6, -, -⟩ := Cond.code_spec hn (atoms_spec (ws := ws) h _ (by rw [hw]; exact List.mem_cons_self))
    exact ⟨meth, c, h1, h2, h3, h4, h5, h6⟩
  · intro p e s m args below meth c s₁ B hml hP _
    have hh0 : s₁.heap = s.heap := by rw [B.state]; rfl
    have ht : ∀ x ∈ c.exceptionTable.toList, False := by
      obtain ⟨meth9, c9, h1, h2, -, -, -, -, h7, -⟩ := Cond.code_spec B.named (atoms_spec (ws := ws) B.pre _ (by rw [hw]; exact List.mem_cons_self))
      cases Option.some.inj (h1.symm.trans B.method)
      cases Option.some.inj (h2.symm.trans (Stand.of_body B).code)
      intro x hx
      rw [Array.isEmpty_iff.mp h7] at hx
      cases hx
    obtain ⟨t, a1, o, b1, b2, b3⟩ := body p e s m args below meth c s₁ B hml ht hP s₁ hh0 (Stand.of_body B)
    exact ⟨t, o, a1, b1, b2, b3⟩
theorem z_introF {Y : zY} {d mc ms : Nat} {as : List zV} {w : List zE} {Post : zP → List zE → Prop} {ls : List (Nat × zV)} (hy : plainFor Y.1 = true) (hh : Y.2.2.2.2 = []) (hla : ∀ ac ad, lv_args 0 (as.map (zc ac ad)) = zls ac ad ls) (hlen : ∀ ac ad, (lg_sl (as.map (zc ac ad))).length ≤ Y.2.2.1)
    (k : Wa Y d mc ms w.length Post 0 ls [] w 0 0) : zMet Y d mc ms as w Post := by
  intro l G ad sz hfl
  refine vx_ofWF (cc := Y.2.1) (maxL := Y.2.2.1) (ret := Y.2.2.2.1) (ws' := []) hy (by unfold zwd; rw [hh]) ?_
  intro p e s m args below meth c s₁ B hml ht hv
  obtain ⟨rfl, hsz, hP, hD0, hE, hT⟩ := hv
  subst hsz
  have hl := lv_entry (as.map (zc G.2.2.1 ad)) (hlen G.2.2.1 ad)
  rw [lg_entry_eq]
  rw [hla] at hl
  refine k p l e _ s m _ below meth c G (va_A (zw G ad w) s.heap.size) ad _ ⟨hfl, ⟨Nat.le_refl _, Nat.le_refl _, Nat.le_refl _, Nat.le_refl _⟩, B.exec, B.bytes, hml, B.returns, findClass_of_methodNamed B.named, B.notSynchronized, (name_of_methodNamed B.named B.method).1, ?_, hT, hE, fun q h => Or.inr h⟩ (z_fin B.exec B.bytes B.returns B.notSynchronized) ad s.heap [] _ ⟨Nat.le_refl _, fun k h => rfl⟩ ⟨hP, hD0.self, va_S.rf⟩ hl
  rw [hh]
  cases hq : c.exceptionTable.toList with
  | nil => rfl
  | cons x t => exact (ht x (by rw [hq]; exact List.mem_cons_self)).elim
section ZV
variable {Y Y1 : zY} {d d1 mc ms mc1 ms1 n0 : Nat} {Post Post1 : zP → List zE → Prop} {pc pc' : Nat} {ls : List (Nat × zV)} {st stk as : List zV} {w w1 : List zE} {nc ns : Nat} {ρ : List Nat}
theorem wa_ixor {a b : Int} (hd : decode Y.2.1 pc = .ok (.ixor, 1)) (hp : pc + 1 = pc') (k : Wa Y d mc ms n0 Post pc' ls (zI (zxor a b) :: st) w nc ns) : Wa Y d mc ms n0 Post pc ls (zI b :: zI a :: st) w nc ns := by
  subst hp
  intro p l e R s m args below meth c G A ad0 Qm C F ad H locs lsA hag hst hl
  have kk := k p l e R s m args below meth c G A ad0 Qm C F ad H locs lsA hag hst hl
  obtain ⟨-, hR, hx, hb, hml, -, hown, -, -, -, hT, hE, -⟩ := C
  refine lv_ixor hx hb hd ?_
  have e9 : zc G.2.2.1 ad (zI (zxor a b)) = .int _ := congrArg Value.int (Int32.ofInt_toInt _)
  rw [← e9]
  exact kk
theorem wa_iushr {a b : Int} (hd : decode Y.2.1 pc = .ok (.iushr, 1)) (hp : pc + 1 = pc') (k : Wa Y d mc ms n0 Post pc' ls (zI (zushr a b) :: st) w nc ns) : Wa Y d mc ms n0 Post pc ls (zI b :: zI a :: st) w nc ns := by
  subst hp
  intro p l e R s m args below meth c G A ad0 Qm C F ad H locs lsA hag hst hl
  have kk := k p l e R s m args below meth c G A ad0 Qm C F ad H locs lsA hag hst hl
  obtain ⟨-, hR, hx, hb, hml, -, hown, -, -, -, hT, hE, -⟩ := C
  exact lv_iushr hx hb hd (v := Int32.ofInt (zushr a b)) (Int32.ofInt_toInt _).symm kk
theorem wa_i2b {a : Int} (hd : decode Y.2.1 pc = .ok (.i2b, 1)) (hp : pc + 1 = pc') (h0 : 0 ≤ a) (h1 : a < 128) (k : Wa Y d mc ms n0 Post pc' ls (zI a :: st) w nc ns) : Wa Y d mc ms n0 Post pc ls (zI a :: st) w nc ns := by
  subst hp
  intro p l e R s m args below meth c G A ad0 Qm C F ad H locs lsA hag hst hl
  have kk := k p l e R s m args below meth c G A ad0 Qm C F ad H locs lsA hag hst hl
  obtain ⟨-, hR, hx, hb, hml, -, hown, -, -, -, hT, hE, -⟩ := C
  refine lv_i2b hx hb hd ?_ kk
  apply Int32.toInt_inj.mp
  rw [Int8.toInt_toInt32, Int32.toInt_toInt8, zin_t ⟨by omega, by omega⟩]
  exact Int.bmod_eq_of_le (by omega) (by omega)
theorem wa_ldcI {idx : Nat} {n : Int} (hd : decode Y.2.1 pc = .ok (.ldc idx, 2)) (hp : pc + 2 = pc') (hk : Cond.constant Y.1.cls idx (Int32.ofInt n) ∈ lw_tbl) (k : Wa Y d mc ms n0 Post pc' ls (zI n :: st) w nc ns) : Wa Y d mc ms n0 Post pc ls st w nc ns := by
  subst hp
  intro p l e R s m args below meth c G A ad0 Qm C F ad H locs lsA hag hst hl
  have kk := k p l e R s m args below meth c G A ad0 Qm C F ad H locs lsA hag hst hl
  obtain ⟨-, hR, hx, hb, hml, -, hown, -, -, -, hT, hE, -⟩ := C
  exact lv_ldc hx hb hown (hT.at hk (zgood_c _ rfl) _) hd kk
theorem wa_ldcIw {idx : Nat} {n : Int} (hd : decode Y.2.1 pc = .ok (.ldc_w idx, 3)) (hp : pc + 3 = pc') (hk : Cond.constant Y.1.cls idx (Int32.ofInt n) ∈ lw_tbl) (k : Wa Y d mc ms n0 Post pc' ls (zI n :: st) w nc ns) : Wa Y d mc ms n0 Post pc ls st w nc ns := by
  subst hp
  intro p l e R s m args below meth c G A ad0 Qm C F ad H locs lsA hag hst hl
  have kk := k p l e R s m args below meth c G A ad0 Qm C F ad H locs lsA hag hst hl
  obtain ⟨-, hR, hx, hb, hml, -, hown, -, -, -, hT, hE, -⟩ := C
  exact lv_ldcw hx hb hown (hT.at hk (zgood_c _ rfl) _) hd kk
theorem wa_sioobe2 {idx : Nat} (hlink : Cond.fieldLink Y.1.cls idx "jdk/internal/util/Preconditions" "SIOOBE_FORMATTER" "Ljava/util/function/BiFunction;" ∈ lw_tbl) (hd : decode Y.2.1 pc = .ok (.getstatic idx, 3)) (hp : pc + 3 = pc') (k1 : Wa Y d mc ms n0 Post pc' ls (zN :: st) w nc ns) (k2 : Wa Y d mc ms n0 Post pc' ls (zK 60 :: st) w nc ns) : Wa Y d mc ms n0 Post pc ls st w nc ns := by
  subst hp
  intro p l e R s m args below meth c G A ad0 Qm C9 F ad H locs lsA hag hst hl
  have k1 := k1 p l e R s m args below meth c G A ad0 Qm C9 F ad H locs lsA hag hst hl
  have k2 := k2 p l e R s m args below meth c G A ad0 Qm C9 F ad H locs lsA hag hst hl
  obtain ⟨hfl, hR, hx, hb, hml, hr, hown, hlk, hnm, htb, hT, hE, hA⟩ := id C9
  obtain ⟨hP, hD, hS⟩ := id hst
  rcases hE.2.2.2.2.2.2.2.2.2 with h | h
  · exact va_gets hx hb h hS hown (hT.at hlink (zgood_c _ rfl) _) (fun _ h9 => h9) hd k1
  · exact va_gets hx hb h hS hown (hT.at hlink (zgood_c _ rfl) _) (fun _ h9 => h9) hd k2
end ZV
theorem zshr0 {a : Int} (h : zin a) : zshr a 0 = a := by
  unfold zshr
  have : (Int32.ofInt a >>> (Int32.ofInt 0 &&& 31)) = Int32.ofInt a := by
    have h1 : (Int32.ofInt 0 &&& 31) = 0 := by decide
    rw [h1, Int32.shiftRight_zero]
  rw [this, zin_t h]
theorem zbyte : ∀ q : Nat, q < 11 → ∀ i : Nat, i < (zBytes.getD q []).length → zand ((zBytes.getD q []).getD i 0) 255 = (zBytes.getD q []).getD i 0 ∧ 0 ≤ (zBytes.getD q []).getD i 0 ∧ (zBytes.getD q []).getD i 0 < 128 := by decide +kernel
theorem zblen {q : Nat} (h : q < 11) : (zBytes.getD q []).length < 8 := by
  have : ∀ q : Nat, q < 11 → (zBytes.getD q []).length < 8 := by decide +kernel
  exact this q h
def zbcf (a : Int) : Int :=
  let a1 := a - zand (zushr a 1) 1431655765
  let a2 := zand a1 858993459 + zand (zushr a1 2) 858993459
  let a3 := zand (a2 + zushr a2 4) 252645135
  let a4 := a3 + zushr a3 8
  let a5 := a4 + zushr a4 16
  zand a5 63
/-- how many of the twelve lowest bits are set -/
def zpop (n : Nat) : Nat := ((List.range 12).filter fun k => Nat.testBit n k).length
theorem zbc_all : (List.range 4096).all (fun n => zbcf n == (zpop n : Int)) = true := by decide +kernel
theorem zbc {n : Nat} (h : n < 4096) : zbcf n = zpop n := by
  have := List.all_eq_true.mp zbc_all n (List.mem_range.mpr h)
  exact eq_of_beq this
def zidx (c : Int) : Int := if c = 70 then 0 else if c = 67 then 1 else if c = 71 then 2 else if c = 68 then 3 else if c = 65 then 4 else if c = 69 then 5 else 6
theorem zidx_b : ∀ j : Nat, j < 7 → zidx ((zBytes.getD 10 []).getD j 0) = j := by decide +kernel
