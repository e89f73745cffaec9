/-! THE CLAIM OUT OF ONE WALK OF THE LAW'S BODY. Your part is whole_start (and what it stands on); all else here is the same for every law, but numbers. -/
def R_law : String := "ChordSheetLaw"
def lw_P (b : Addr) (xs : List Int32) (args : Array Value) (s : State) : Prop := args = #[.ref b] ∧ s.IntsAt b xs ∧ xs.length ≤ 260 ∧ (Jvm.Cond.and given_1 narrow_1).before args s = true
def lw_Q (_ : Array Value) (s : State) (o : Outcome) (t : State) : Prop := o = .returned (some (.int 1)) ∧ Framed s o t [] 600104 7301314
def lw_Z (below : List Frame) (a : Array Value) (s : State) : State → Prop := fun t => ∃ o, t.status = .running ∧ Ended t below o ∧ lw_Q a s o t
/-- the law's own end, with 1 on the stack, nothing written that was there before, its room as the claim has it -/
theorem lw_ret {p : Program} {l : Launch} {e : Env} {s : State} {m : MethodId} {below : List Frame} {meth : Method} {c : Code} {b : Nat} (hx : p.tables.exec = Jvm.exec) (hb : c.code = code) (hr : meth.sig.returnType = ret) (hlocks : meth.locks = false) {pc : Nat} {H : Heap} {ls : Array Slot} (hdg : decode code pc = .ok (.ireturn, 1)) : W p l e room_1 s m #[Value.ref b] below meth c H [] 600104 7301314 (lw_Z below #[Value.ref b] s) (F0 m pc ls [.int 1]) := by
  intro T hT X
  obtain ⟨fs, hret, hrun, hended, hW, hframe⟩ := X.leave (v := some (.int 1)) (hlocks := hlocks) (fun h => by rw [hr] at h; cases h)
  have hmeth' : T.vm.method? m = some meth := X.method'
  refine ⟨T.setFrames fs, ?_, .returned (some (.int 1)), hrun, hended, rfl, ⟨_, rfl⟩, hW, hframe⟩
  jvm_step X.here [X.here.top, hx, hb, hdg, hmeth', hr, ret, narrow_b1]
  (try refine ⟨rfl, ?_⟩); (try refine ⟨rfl, ?_⟩)
  first | (intro acts; rw [hret _ acts rfl rfl rfl]) | rw [hret _ _ rfl rfl rfl]
  exact Steps.refl _
/-- what holds at the law's entry: the machine, the code, the tables' words (any of lw_tbl by 'hts w (by decide +kernel)'), the script of L ints xs at the cell b, what the Statement gives of the start (any of its parts by flat_of_before) -/
def lw_At (p : Program) (s : State) (m : MethodId) (meth : Method) (c : Code) (b L : Nat) (xs : Nat → Int32) : Prop :=
  p.tables.exec = Jvm.exec ∧ c.code = code ∧ meth.sig.returnType = ret ∧ c.maxLocals = 7 ∧ s.vm.findClass R_law = some m.cls ∧ (∀ w ∈ lw_tbl, w.before #[Value.ref b] s = true) ∧ va_X b L xs s s.heap ∧ b < s.heap.size ∧ meth.locks = false ∧ (Jvm.Cond.and given_1 narrow_1).before #[Value.ref b] s = true
/-! what holds at the entry -/
def lw_N : List Cond := flatC (Jvm.Cond.and given_1 narrow_1)
def eQ : List String := ["MAJOR", "MINOR", "SEVENTH", "MINOR_SEVENTH", "MAJOR_SEVENTH", "DIMINISHED", "AUGMENTED", "SUSPENDED", "SIXTH", "NINTH"]
def eS : List (String × Nat) := [("ChordSheet$Quality", 78), ("ChordSheet$Quality", 84), ("ChordSheet$Quality", 87), ("ChordSheet$Quality", 90), ("ChordSheet$Quality", 93), ("ChordSheet$Quality", 96), ("ChordSheet$Quality", 99), ("ChordSheet$Quality", 102), ("ChordSheet$Quality", 105), ("ChordSheet$Quality", 108), ("ChordSheet$Notes", 17)]
def eST (i : Nat) : Term := .string (eS.getD i ("", 0)).1 (eS.getD i ("", 0)).2
def eQT (i : Nat) : Term := .static "ChordSheet$Quality" (eQ.getD i "") "LChordSheet$Quality;"
def eV (t : Term) : Term := .field t "java/lang/String" "value" "[B"
theorem e_at {args : Array Value} {s : State} (h : ∀ w ∈ lw_N, w.before args s = true) {k : Nat} {w : Cond} (hk : lw_N[k]? = some w) : w.before args s = true := h w (List.mem_of_getElem? hk)
theorem e_aw {args : Array Value} {s : State} (h : ∀ w ∈ lw_tbl, w.before args s = true) {k : Nat} {w : Cond} (hk : lw_tbl[k]? = some w) : w.before args s = true := h w (List.mem_of_getElem? hk)
theorem eS_1 : ∀ i, i < 11 → lw_N[([551, 555, 560, 565, 571, 579, 586, 593, 601, 606, 113] : List Nat).getD i 0]? = some (Cond.exactly (eST i) "java/lang/String") := by decide +kernel
theorem eS_2 : ∀ i, i < 11 → lw_N[([551, 555, 560, 565, 571, 579, 586, 593, 601, 606, 113] : List Nat).getD i 0 + 1]? = some (Cond.eq (.field (eST i) "java/lang/String" "coder" "B") (.int 0)) := by decide +kernel
theorem eS_3 : ∀ i, i < 11 → lw_N[([551, 555, 560, 565, 571, 579, 586, 593, 601, 606, 113] : List Nat).getD i 0 + 2]? = some (Cond.arrayOf (eV (eST i)) .byte) := by decide +kernel
theorem eS_4 : ∀ i, i < 11 → lw_N[([551, 555, 560, 565, 571, 579, 586, 593, 601, 606, 113] : List Nat).getD i 0 + 3]? = some (Cond.eq (.length (eV (eST i))) (.int (Int32.ofNat (zBytes.getD i []).length))) := by decide +kernel
theorem eS_5 : ∀ i, i < 11 → ∀ j, j < (zBytes.getD i []).length → lw_N[([551, 555, 560, 565, 571, 579, 586, 593, 601, 606, 113] : List Nat).getD i 0 + 4 + j]? = some (Cond.eq (.elem (eV (eST i)) (.int (Int32.ofNat j))) (.int (Int32.ofInt ((zBytes.getD i []).getD j 0)))) := by decide +kernel
theorem eS_6 : ∀ i, i < 11 → (zBytes.getD i []).length < 2 ^ 31 := by decide +kernel
theorem eQ_1 : ∀ i, i < 10 → lw_N[([24, 32, 38, 44, 50, 56, 62, 68, 74, 80] : List Nat).getD i 0]? = some (Cond.exactly (eQT i) "ChordSheet$Quality") := by decide +kernel
theorem eQ_2 : ∀ i, i < 10 → lw_N[([14, 15, 16, 17, 18, 19, 20, 21, 22, 23] : List Nat).getD i 0]? = some (Cond.eq (.elem (Term.static "ChordSheet$Quality" "ALL" "[LChordSheet$Quality;") (.int (Int32.ofNat i))) (eQT i)) := by decide +kernel
theorem eQ_3 : ∀ i, i < 10 → lw_N[([26, 34, 40, 46, 52, 58, 64, 70, 76, 82] : List Nat).getD i 0]? = some (Cond.eq (.field (eQT i) "ChordSheet$Quality" "suffix" "Ljava/lang/String;") (eST i)) := by decide +kernel
theorem eQ_4 : ∀ i, i < 10 → lw_N[([27, 35, 41, 47, 53, 59, 65, 71, 77, 83] : List Nat).getD i 0]? = some (Cond.eq (.field (eQT i) "ChordSheet$Quality" "tones" "I") (.int (Int32.ofInt (zTones.getD i 0)))) := by decide +kernel
theorem eQ_5 : ∀ i, i < 10 → lw_N[([28, 36, 42, 48, 54, 60, 66, 72, 78, 84] : List Nat).getD i 0]? = some (Cond.eq (.field (eQT i) "ChordSheet$Quality" "easyRoots" "I") (.int (Int32.ofInt (zEasy.getD i 0)))) := by decide +kernel
theorem eQ_6 : ∀ i, i < 10 → lw_N[([29, 37, 43, 49, 55, 61, 67, 73, 79, 85] : List Nat).getD i 0]? = some (Cond.eq (.field (eQT i) "ChordSheet$Quality" "minor" "Z") (.int (Int32.ofInt (zMinor.getD i 0)))) := by decide +kernel
theorem eM_1 : ∀ i, i < 14 → lw_N[([326, 360, 478, 228, 255, 405, 286, 447, 513, 124, 203, 177, 380, 152] : List Nat).getD i 0]? = some (Cond.exactly (.string (zMsgs.getD i ("", 0, "")).1 (zMsgs.getD i ("", 0, "")).2.1) "java/lang/String") := by decide +kernel
theorem eM_2 : ∀ i, i < 14 → lw_tbl[([768, 769, 944, 725, 726, 866, 755, 915, 1007, 594, 719, 696, 826, 645] : List Nat).getD i 0]? = some (Cond.stringRef (zMsgs.getD i ("", 0, "")).1 (zMsgs.getD i ("", 0, "")).2.1 (zMsgs.getD i ("", 0, "")).2.2) := by decide +kernel
section ZENT
variable {args : Array Value} {s : State} {A : Nat → Prop}
theorem e_str (hN : ∀ w ∈ lw_N, w.before args s = true) (hA : ∀ a : Nat, a < s.heap.size → ¬ A a) : ∃ adS adV : Nat → Nat, ∀ i, i < 11 → (eST i).eval args s none [] s = some (.ref (adS i)) ∧ va_O "java/lang/String" (adS i) A s s.heap ∧ va_OF "java/lang/String" "coder" "B" (.int 0) (adS i) A s s.heap ∧ va_OF "java/lang/String" "value" "[B" (.ref (adV i)) (adS i) A s s.heap ∧ va_T .byte (adV i) (zBytes.getD i []).length (fun j => .int (Int32.ofInt ((zBytes.getD i []).getD j 0))) A s s.heap := by
  have h0 : ∀ i : Nat, ∃ q : Nat × Nat, i < 11 → (eST i).eval args s none [] s = some (.ref q.1) ∧ va_O "java/lang/String" q.1 A s s.heap ∧ va_OF "java/lang/String" "coder" "B" (.int 0) q.1 A s s.heap ∧ va_OF "java/lang/String" "value" "[B" (.ref q.2) q.1 A s s.heap ∧ va_T .byte q.2 (zBytes.getD i []).length (fun j => .int (Int32.ofInt ((zBytes.getD i []).getD j 0))) A s s.heap := by
    intro i
    by_cases hi : i < 11
    · obtain ⟨a, c, cA, kA, q1, q2, q3, q4, q5, q6, -⟩ := Cond.exactly_spec (args := args) (first := s) (o := none) (s := s) (idx := []) (t := eST i) (cls := "java/lang/String") (e_at hN (eS_1 i hi))
      obtain ⟨t, ht, hT⟩ := va_Tof (f := fun j => .int (Int32.ofInt ((zBytes.getD i []).getD j 0))) (A := A) (eS_6 i hi) (e_at hN (eS_3 i hi)) (va_eqt (e_at hN (eS_4 i hi))) (fun j hj => va_eqt (e_at hN (eS_5 i hi j hj))) hA
      exact ⟨(a, t), fun _ => ⟨q1, ⟨cA, q3, q5, by rw [q6]; exact q2, hA a (Array.getElem?_eq_some_iff.mp q3).1⟩, vk_OFof q1 (va_eqt (e_at hN (eS_2 i hi))) hA, vk_OFof q1 ht hA, hT⟩⟩
    · exact ⟨(0, 0), fun h => absurd h hi⟩
  obtain ⟨ad, had⟩ := Classical.axiomOfChoice h0
  exact ⟨fun i => (ad i).1, fun i => (ad i).2, had⟩
theorem e_qual (hN : ∀ w ∈ lw_N, w.before args s = true) (hA : ∀ a : Nat, a < s.heap.size → ¬ A a) : ∃ adQ : Nat → Nat, ∀ i, i < 10 → (eQT i).eval args s none [] s = some (.ref (adQ i)) ∧ va_O "ChordSheet$Quality" (adQ i) A s s.heap := by
  have h0 : ∀ i : Nat, ∃ t : Nat, i < 10 → (eQT i).eval args s none [] s = some (.ref t) ∧ va_O "ChordSheet$Quality" t A s s.heap := by
    intro i
    by_cases hi : i < 10
    · obtain ⟨a, c, cell, k, q1, q2, q3, q4, q5, q6, -⟩ := Cond.exactly_spec (e_at hN (eQ_1 i hi))
      exact ⟨a, fun _ => ⟨q1, cell, q3, q5, by rw [q6]; exact q2, hA a (Array.getElem?_eq_some_iff.mp q3).1⟩⟩
    · exact ⟨0, fun h => absurd h hi⟩
  exact Classical.axiomOfChoice h0
theorem e_ef {n d : String} {v : Nat → Value} {tm : Nat → Term} {ad : Nat → Nat} (hev : ∀ i, i < 10 → (eQT i).eval args s none [] s = some (.ref (ad i))) (hf : ∀ i, i < 10 → (Cond.eq (.field (eQT i) "ChordSheet$Quality" n d) (tm i)).before args s = true) (ht : ∀ i, i < 10 → (tm i).eval args s none [] s = some (v i)) (hA : ∀ a : Nat, a < s.heap.size → ¬ A a) : va_Ef 10 "ChordSheet$Quality" n d v ad A s s.heap := by
  intro i hi
  exact vk_OFof (hev i hi) (va_eqv (hf i hi) (ht i hi)) hA
theorem e_arr (hN : ∀ w ∈ lw_N, w.before args s = true) (hA : ∀ a : Nat, a < s.heap.size → ¬ A a) {ad : Nat → Nat} (hev : ∀ i, i < 10 → (eQT i).eval args s none [] s = some (.ref (ad i))) : ∃ t : Nat, (Term.static "ChordSheet$Quality" "ALL" "[LChordSheet$Quality;").eval args s none [] s = some (.ref t) ∧ va_T (.object "ChordSheet$Quality") t 10 (fun j => .ref (ad j)) A s s.heap :=
  va_Tof (N := 10) (by decide) (e_at hN (k := 11) (by decide +kernel)) (va_eqt (e_at hN (k := 12) (by decide +kernel))) (fun j hj => va_eqv (e_at hN (eQ_2 j hj)) (hev j hj)) hA
theorem e_msg (hN : ∀ w ∈ lw_N, w.before args s = true) (hts : ∀ w ∈ lw_tbl, w.before args s = true) : ∀ q ∈ zMsgs, ∃ sa, vk_R q.1 q.2.1 q.2.2 sa s := by
  intro q hq
  obtain ⟨i, hi⟩ := List.getElem?_of_mem hq
  have hl : i < 14 := (List.getElem?_eq_some_iff.mp hi).1
  have hg : zMsgs.getD i ("", 0, "") = q := by rw [List.getD_eq_getElem?_getD, hi]; rfl
  have h1 := e_at hN (eM_1 i hl)
  have h2 := e_aw hts (eM_2 i hl)
  rw [hg] at h1 h2
  obtain ⟨a, c, cell, k, q1, -⟩ := Cond.exactly_spec h1
  exact ⟨a, vk_R.of h2 q1⟩
theorem e_K (hts : ∀ w ∈ lw_tbl, w.before args s = true) : ∃ (D : va_G) (ca : Nat → ClassId), ∀ r, va_K D vwCl (zTys (D, ca, r)) s := by
  have h0 : ∀ c : Nat, ∃ q : ClassId × (Nat → Nat), ∀ v, vwCl[c]? = some v → u_Kn s v.1 v.2.1 v.2.2 q.1 q.2 := by
    intro c
    have key : ∀ {ci N : Nat} {C : String} {T : u_T} {ty : Nat → FieldType}, zCl ci C T N ty → ∃ q : ClassId × (Nat → Nat), ∀ v, vwCl[ci]? = some v → u_Kn s v.1 v.2.1 v.2.2 q.1 q.2 := by
      intro ci N C T ty h
      obtain ⟨cC, iS, hk⟩ := u_known (n := N) hts (fun w hw => (h.2.1 w hw).1) (hts _ h.2.2.2.2.2.1)
      refine ⟨(cC, iS), fun v hv => ?_⟩
      rw [h.1] at hv
      cases hv
      exact hk
    rcases (show c = 0 ∨ c = 1 ∨ c = 2 ∨ c = 3 ∨ c = 4 ∨ c = 5 ∨ 6 ≤ c by omega) with rfl | rfl | rfl | rfl | rfl | rfl | h
    · exact key zc_X1
    · exact key zc_X3
    · exact key zc_X6
    · exact key zc_X7
    · exact key zc_X8
    · exact key zc_X9
    · refine ⟨(0, fun _ => 0), fun v hv => ?_⟩
      rw [List.getElem?_eq_none (by show 6 ≤ c; exact h)] at hv
      cases hv
  obtain ⟨D, hD⟩ := Classical.axiomOfChoice h0
  obtain ⟨c0, k0, p0, a0, b0, d0⟩ := Cond.arrayClass_spec (e_aw hts (k := 101) (w := .arrayClass .int) (by decide +kernel))
  obtain ⟨c1, k1, p1, a1, b1, d1⟩ := Cond.arrayClass_spec (e_aw hts (k := 70) (w := .arrayClass .char) (by decide +kernel))
  obtain ⟨c2, k2, p2, a2, b2, d2⟩ := Cond.arrayClass_spec (e_aw hts (k := 486) (w := .arrayClass .byte) (by decide +kernel))
  obtain ⟨p3, c3, k3, f3, -, b3, d3, a3⟩ := Cond.arrayOver_spec (e_aw hts (k := 109) (w := .arrayOver (.object "ChordSheet$Sheet")) (by decide +kernel))
  refine ⟨(fun c => (D c).1, fun c => (D c).2), fun i => match i with | 0 => c0 | 1 => c1 | 2 => c2 | _ => c3, fun r => ⟨fun c q hq => hD c q hq, fun k q hq => ?_⟩⟩
  match k, hq with
  | 0, hq => cases hq; exact ⟨fun n z => ⟨fun k h => (by cases h), k0, b0, p0, d0⟩, a0⟩
  | 1, hq => cases hq; exact ⟨fun n z => ⟨fun k h => (by cases h), k1, b1, p1, d1⟩, a1⟩
  | 2, hq => cases hq; exact ⟨fun n z => ⟨fun k h => (by cases h), k2, b2, p2, d2⟩, a2⟩
  | 3, hq => cases hq; exact ⟨fun n z => ⟨fun k h => (by cases h), k3, b3, p3, d3⟩, k3, p3, b3, d3, f3, a3⟩
  | k + 4, hq => exact nomatch hq
end ZENT
theorem e_env {s : State} {b L : Nat} {xs : Nat → Int32} (hN : ∀ w ∈ lw_N, w.before #[Value.ref b] s = true) (hts : ∀ w ∈ lw_tbl, w.before #[Value.ref b] s = true) (hX : va_X b L xs s s.heap) (hb : b < s.heap.size) : ∃ G : zG, zEnv G (fun q => s.heap.size ≤ q) s s.heap ∧ G.2.2.1 50 = b ∧ G.2.2.2.1 = L ∧ G.2.2.2.2 = xs := by
  have hA : ∀ a : Nat, a < s.heap.size → ¬ (fun q => s.heap.size ≤ q) a := fun a h1 h2 => absurd h1 (Nat.not_lt.mpr h2)
  obtain ⟨D, ca, hK⟩ := e_K hts
  obtain ⟨adS, adV, hS⟩ := e_str hN hA
  obtain ⟨adQ, hQ⟩ := e_qual hN hA
  have hev : ∀ i, i < 10 → (eQT i).eval #[Value.ref b] s none [] s = some (.ref (adQ i)) := fun i hi => (hQ i hi).1
  obtain ⟨tA, hT1, hT2⟩ := e_arr hN hA hev
  have hsi := va_Zqof (A := fun q => s.heap.size ≤ q) (e_aw hts (k := 320) (w := .laysStatic "jdk/internal/util/Preconditions" "SIOOBE_FORMATTER" "Ljava/util/function/BiFunction;") (by decide +kernel)) (e_aw hts (k := 42) (w := .initialized "jdk/internal/util/Preconditions") (by decide +kernel)) (e_at hN (k := 5) (w := .isRef (.static "jdk/internal/util/Preconditions" "SIOOBE_FORMATTER" "Ljava/util/function/BiFunction;")) (by decide +kernel)) hA
  obtain ⟨tF, htF⟩ : ∃ tF : Nat, va_Z "jdk/internal/util/Preconditions" "SIOOBE_FORMATTER" "Ljava/util/function/BiFunction;" .null (fun q => s.heap.size ≤ q) s s.heap ∨ va_Z "jdk/internal/util/Preconditions" "SIOOBE_FORMATTER" "Ljava/util/function/BiFunction;" (.ref tF) (fun q => s.heap.size ≤ q) s s.heap := by
    rcases hsi with h | ⟨t, h⟩
    · exact ⟨0, Or.inl h⟩
    · exact ⟨t, Or.inr h⟩
  let adr : Nat → Nat := fun k => if k < 10 then adQ k else if k = 10 then tA else if k < 22 then adS (k - 11) else if k = 50 then b else if k = 60 then tF else adV (k - 30)
  have r1 : ∀ i, i < 10 → adr i = adQ i := fun i hi => if_pos hi
  have r2 : ∀ i, i < 11 → adr (11 + i) = adS i := by
    intro i hi
    show (if _ then _ else if _ then _ else if _ then _ else _) = _
    rw [if_neg (by omega), if_neg (by omega), if_pos (by omega), show 11 + i - 11 = i by omega]
  have r3 : ∀ i, i < 11 → adr (30 + i) = adV i := by
    intro i hi
    show (if _ then _ else if _ then _ else if _ then _ else if _ then _ else if _ then _ else _) = _
    rw [if_neg (by omega), if_neg (by omega), if_neg (by omega), if_neg (by omega), if_neg (by omega), show 30 + i - 30 = i by omega]
  have hev2 : ∀ i, i < 10 → (eQT i).eval #[Value.ref b] s none [] s = some (.ref (adr i)) := fun i hi => by rw [r1 i hi]; exact hev i hi
  refine ⟨(D, ca, adr, L, xs), ⟨⟨hK _, va_AO.of (e_aw hts (k := 109) (w := .arrayOver (.object "ChordSheet$Sheet")) (by decide +kernel))⟩, ?_, ?_, ?_, ?_, ?_, ?_, ?_, ?_, htF⟩, rfl, rfl, rfl⟩
  · exact ⟨vx_Zqof (e_aw hts (k := 580) (w := .laysStatic "java/lang/Throwable" "UNASSIGNED_STACK" "[Ljava/lang/StackTraceElement;") (by decide +kernel)) (e_aw hts (k := 30) (w := .initialized "java/lang/Throwable") (by decide +kernel)) (e_at hN (k := 30) (by decide +kernel)) hA, vx_Zqof (e_aw hts (k := 582) (w := .laysStatic "java/lang/Throwable" "SUPPRESSED_SENTINEL" "Ljava/util/List;") (by decide +kernel)) (e_aw hts (k := 30) (w := .initialized "java/lang/Throwable") (by decide +kernel)) (e_at hN (k := 31) (by decide +kernel)) hA⟩
  · exact ⟨va_Zref (e_aw hts (k := 358) (w := .laysStatic "ChordSheet$Quality" "ALL" "[LChordSheet$Quality;") (by decide +kernel)) (e_aw hts (k := 45) (w := .initialized "ChordSheet$Quality") (by decide +kernel)) hT1 hA, va_Zref (e_aw hts (k := 363) (w := .laysStatic "ChordSheet$Quality" "MAJOR" "LChordSheet$Quality;") (by decide +kernel)) (e_aw hts (k := 45) (w := .initialized "ChordSheet$Quality") (by decide +kernel)) (hev2 0 (by decide)) hA, va_Zof (e_aw hts (k := 277) (w := .laysStatic "java/lang/String" "COMPACT_STRINGS" "Z") (by decide +kernel)) (e_aw hts (k := 39) (w := .initialized "java/lang/String") (by decide +kernel)) (va_eqi (e_at hN (k := 4) (by decide +kernel))) hA⟩
  · refine ⟨?_, ?_⟩
    · obtain ⟨cell, g1, g2, g3, g4, g5, g6, g7⟩ := hT2
      exact ⟨cell, g1, g2, g3, g4, g5, fun j hj => by rw [g6 j hj]; show some (Value.ref (adQ j)) = some (Value.ref (adr j)); rw [r1 j hj], g7⟩
    · obtain ⟨scr, g1, g2, g3, g4, g5⟩ := hX
      exact ⟨scr, g1, g2, g3, Nat.le_of_eq g4.symm, by rw [g4], g5, hA b hb⟩
  · intro i hi
    show va_O _ (adr i) _ _ _
    rw [r1 i hi]
    exact (hQ i hi).2
  · exact ⟨e_ef hev2 (fun i hi => e_at hN (eQ_3 i hi)) (fun i hi => by show _ = some (Value.ref (adr (11 + i))); rw [r2 i (by omega)]; exact (hS i (by omega)).1) hA, e_ef hev2 (fun i hi => e_at hN (eQ_4 i hi)) (fun i hi => rfl) hA, e_ef hev2 (fun i hi => e_at hN (eQ_5 i hi)) (fun i hi => rfl) hA, e_ef hev2 (fun i hi => e_at hN (eQ_6 i hi)) (fun i hi => rfl) hA⟩
  · intro i hi
    have h9 := (hS i hi).2
    show va_O _ (adr (11 + i)) _ _ _ ∧ va_OF _ _ _ _ (adr (11 + i)) _ _ _ ∧ va_OF _ _ _ (.ref (adr (30 + i))) (adr (11 + i)) _ _ _ ∧ va_T _ (adr (30 + i)) _ _ _ _ _
    rw [r2 i hi, r3 i hi]
    exact h9
  · refine ⟨vk_R.of (e_aw hts (k := 263) (by decide +kernel)) ?_, e_msg hN hts⟩
    show _ = some (Value.ref (adr (11 + 10)))
    rw [r2 10 (by decide)]
    exact (hS 10 (by decide)).1
  · exact ⟨va_Nc.of (e_at hN (k := 101) (by decide +kernel)), va_Nc.of (e_at hN (k := 110) (by decide +kernel))⟩
theorem whole_start {p : Program} {e : Env} {s : State} {m : MethodId} {below : List Frame} {meth : Method} {c : Code} (l : Launch) (hflags : l.flags = flags0) {b L : Nat} {xs : Nat → Int32} (hL : L ≤ 260) (C0 : lw_At p s m meth c b L xs) : W p l e room_1 s m #[Value.ref b] below meth c s.heap [] 0 0 (lw_Z below #[Value.ref b] s) (entryFrame m ([Value.ref b] : List Value).toArray 7) := by
  obtain ⟨hx, hb, hr, hml, hown, hts, hX, hbl, hlk, hgv⟩ := C0
  obtain ⟨G, hE, g50, gN, gX⟩ := e_env (flat_of_before _ hgv) hts hX hbl
  have hT : zTab s := by
    intro w hw hg a
    have h1 := hts w hw
    rw [Bool.or_eq_true] at hg
    rcases hg with hg | hg
    · exact word_at (State.WarmedH.refl s) (good_of_word hg) h1
    · cases w <;> simp only [zt_k] at hg <;> first | (exact absurd hg (by decide)) | exact va_Nw.use rfl (va_Nw.of rfl h1)
  have hC : zCxS L xs q_L_law 16 600104 7301314 p l room_1 s m meth c G (fun q => s.heap.size ≤ q) := ⟨⟨gN, gX⟩, hflags, ⟨by decide, by decide, by decide, by decide⟩, hx, hb, hml, hr, hown, hlk, trivial, trivial, hT, hE, fun q h => h⟩
  have hF : zFin q_L_law 600104 7301314 0 PL9 p l e room_1 s m #[Value.ref b] below meth c G (fun q => s.heap.size ≤ q) (fun _ => 0) (lw_Z below #[Value.ref b] s) := by
    refine ⟨fun v w' ad H locs lsA pc nc ns hp hret hc hs hlen hag hst => ?_, fun U hU => ?_⟩
    · have hv : v = some (zI 1) := Sum.inl.inj hp
      subst hv
      exact W.widen hc hs (va_forget (fun q hq => hst.2.2.2.2 q hq) (lw_ret hx hb hr hlk hret.1))
    · obtain ⟨o, h1, h2, h3⟩ := hU
      rcases h3 with ⟨h, _⟩ | ⟨q, _, E, ce, L9, ⟨⟨w', ad, h, _⟩, _⟩, _⟩
      · exact h.elim
      · exact nomatch h
  have hl := lv_entry ([Value.ref b] : List Value) (n := 7) (Nat.le_of_ble_eq_true rfl)
  rw [lg_entry_eq]
  refine law_all (N := L) (xs := xs) p l e room_1 s m #[Value.ref b] below meth c G (fun q => s.heap.size ≤ q) (fun _ => 0) _ hC hF (fun _ => 0) s.heap [] _ ⟨Nat.le_refl _, fun k h => rfl⟩ ⟨?_, ?_, va_S.rf⟩ ?_
  · intro k q hq
    exact nomatch hq
  · exact ⟨fun i j p q hp => (nomatch hp), fun k q hq => (nomatch hq)⟩
  · have e : zls G.2.2.1 (fun _ => 0) [(0, zK 50)] = [(0, Value.ref b)] := by
      show [(0, Value.ref (G.2.2.1 50))] = _
      rw [g50]
    rw [e]
    exact hl
