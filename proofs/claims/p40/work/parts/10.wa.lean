/-! THE LAYER: abstract values (ints as Int, cells by their places), abstract worlds, one judgement Wa over them -/
abbrev zV : Type := Int ⊕ (Int ⊕ Option (Nat ⊕ Nat))
abbrev zI (n : Int) : zV := .inl n
abbrev zJ (n : Int) : zV := .inr (.inl n)
abbrev zN : zV := .inr (.inr none)
abbrev zR (k : Nat) : zV := .inr (.inr (some (.inl k)))
abbrev zK (k : Nat) : zV := .inr (.inr (some (.inr k)))
abbrev zE : Type := (Nat × Nat × (Int → Int)) ⊕ ((Nat × (Nat → Option Nat)) ⊕ (Nat × List zV))
abbrev zA (t n : Nat) (f : Int → Int) : zE := .inl (t, n, f)
abbrev zQ (n : Nat) (f : Nat → Option Nat) : zE := .inr (.inl (n, f))
abbrev zO (c : Nat) (fs : List zV) : zE := .inr (.inr (c, fs))
abbrev zG : Type := va_G × (Nat → ClassId) × (Nat → Nat) × Nat × (Nat → Int32)
def zc (ac ad : Nat → Nat) (v : zV) : Value := match v with
  | .inl n => .int (Int32.ofInt n)
  | .inr (.inl n) => .long (Int64.ofInt n)
  | .inr (.inr none) => .null
  | .inr (.inr (some (.inl k))) => .ref (ad k)
  | .inr (.inr (some (.inr k))) => .ref (ac k)
def ze (G : zG) (ad : Nat → Nat) (e : zE) : va_E := match e with
  | .inl (t, n, f) => .inl (G.2.1 t, n, if t = 2 then .inr (.inl fun j => Int64.ofInt (f j)) else .inl fun j => Int32.ofInt (f j))
  | .inr (.inl (n, f)) => .inl (G.2.1 3, n, .inr (.inr (.inr (.inr fun j => (f j).map ad))))
  | .inr (.inr (c, fs)) => .inr (c, fs.map (zc G.2.2.1 ad))
def zw (G : zG) (ad : Nat → Nat) (w : List zE) : va_W := w.zipIdx.map fun q => (ad q.2, ze G ad q.1)
theorem zw_at (G : zG) (ad : Nat → Nat) (w : List zE) (k : Nat) : (zw G ad w)[k]? = (w[k]?).map fun e => (ad k, ze G ad e) := by
  simp only [zw, List.getElem?_map, List.getElem?_zipIdx, Option.map_map]
  cases w[k]? <;> simp
theorem zw_get {G : zG} {ad : Nat → Nat} {w : List zE} {k : Nat} {e : zE} (h : w[k]? = some e) : (zw G ad w)[k]? = some (ad k, ze G ad e) := by rw [zw_at, h]; rfl
theorem zw_set (G : zG) (ad : Nat → Nat) (w : List zE) (k : Nat) (e : zE) : zw G ad (w.set k e) = (zw G ad w).set k (ad k, ze G ad e) := by
  apply List.ext_getElem?
  intro i
  rw [zw_at, List.getElem?_set, List.getElem?_set, zw_at]
  by_cases h : k = i
  · subst h
    by_cases hl : k < w.length <;> simp [hl, zw]
  · simp [h]
theorem zw_len (G : zG) (ad : Nat → Nat) (w : List zE) : (zw G ad w).length = w.length := by simp [zw]
def zTys (G : zG) : List (ClassId × FieldType) := [(G.2.1 0, .int), (G.2.1 1, .char), (G.2.1 2, .byte), (G.2.1 3, .object "ChordSheet$Sheet")]
abbrev zY : Type := MethodName × ByteArray × Nat × Option FieldType × List (Nat × Nat × Nat × Nat)
abbrev zP : Type := Option zV ⊕ String
def zTones : List Int := [145, 137, 1169, 1161, 2193, 73, 273, 161, 657, 1173]
def zEasy : List Int := [661, 532, 2709, 532, 0, 0, 0, 0, 0, 0]
def zMinor : List Int := [0, 1, 0, 1, 0, 1, 0, 0, 0, 0]
def zBytes : List (List Int) := [[], [109], [55], [109, 55], [109, 97, 106, 55], [100, 105, 109], [97, 117, 103], [115, 117, 115, 52], [54], [57], [70, 67, 71, 68, 65, 69, 66]]
def zMsgs : List (String × Nat × String) := [("ChordSheet", 67, "the code is not from 32 to 126"), ("ChordSheet", 78, "the text is full"), ("ChordSheet", 110, "the width is not from 10 to 200"), ("ChordSheet", 124, "there is no such column"), ("ChordSheet", 167, "there are 40 chords already"), ("ChordSheet", 176, "there is no such chord with a next one"), ("ChordSheet", 216, "the semitones are not from -11 to 11"), ("ChordSheet", 231, "the fret is not from 0 to 7"), ("ChordSheet", 249, "there is no such line, pair or row"), ("ChordSheet", 255, "there is nothing to undo"), ("ChordSheet", 272, "there is no such line"), ("ChordSheet", 274, "there is no such chord"), ("ChordSheet", 276, "the index is negative"), ("ChordSheet", 278, "no key has this tonic")]
/-- what stands from the start and is never written: Quality's constants, their table, String constants; what the tables say -/
def zEnv (G : zG) (A : Nat → Prop) (U : State) (H : Heap) : Prop :=
  (va_K G.1 vwCl (zTys G) U ∧ va_AO "ChordSheet$Sheet" U) ∧
  (vx_Zq Bundle.tN "UNASSIGNED_STACK" Bundle.steD A U H ∧ vx_Zq Bundle.tN "SUPPRESSED_SENTINEL" Bundle.listD A U H) ∧
  (va_Z "ChordSheet$Quality" "ALL" "[LChordSheet$Quality;" (.ref (G.2.2.1 10)) A U H ∧ va_Z "ChordSheet$Quality" "MAJOR" "LChordSheet$Quality;" (.ref (G.2.2.1 0)) A U H ∧ va_Z "java/lang/String" "COMPACT_STRINGS" "Z" (.int 1) A U H) ∧
  (va_T (.object "ChordSheet$Quality") (G.2.2.1 10) 10 (fun j => .ref (G.2.2.1 j)) A U H ∧ va_T .int (G.2.2.1 50) G.2.2.2.1 (fun j => .int (G.2.2.2.2 j)) A U H) ∧
  (∀ i, i < 10 → va_O "ChordSheet$Quality" (G.2.2.1 i) A U H) ∧
  (va_Ef 10 "ChordSheet$Quality" "suffix" "Ljava/lang/String;" (fun i => .ref (G.2.2.1 (11 + i))) G.2.2.1 A U H ∧ va_Ef 10 "ChordSheet$Quality" "tones" "I" (fun i => .int (Int32.ofInt (zTones.getD i 0))) G.2.2.1 A U H ∧
   va_Ef 10 "ChordSheet$Quality" "easyRoots" "I" (fun i => .int (Int32.ofInt (zEasy.getD i 0))) G.2.2.1 A U H ∧ va_Ef 10 "ChordSheet$Quality" "minor" "Z" (fun i => .int (Int32.ofInt (zMinor.getD i 0))) G.2.2.1 A U H) ∧
  (∀ i, i < 11 → va_O "java/lang/String" (G.2.2.1 (11 + i)) A U H ∧ va_OF "java/lang/String" "coder" "B" (.int 0) (G.2.2.1 (11 + i)) A U H ∧ va_OF "java/lang/String" "value" "[B" (.ref (G.2.2.1 (30 + i))) (G.2.2.1 (11 + i)) A U H ∧
    va_T .byte (G.2.2.1 (30 + i)) (zBytes.getD i []).length (fun j => .int (Int32.ofInt ((zBytes.getD i []).getD j 0))) A U H) ∧
  (vk_R "ChordSheet$Notes" 17 "FCGDAEB" (G.2.2.1 21) U ∧ ∀ q ∈ zMsgs, ∃ sa, vk_R q.1 q.2.1 q.2.2 sa U) ∧
  (va_Nc "java/lang/IllegalStateException" "java/lang/IllegalArgumentException" U ∧ va_Nc "java/lang/IllegalStateException" "java/lang/IndexOutOfBoundsException" U) ∧
  (va_Z "jdk/internal/util/Preconditions" "SIOOBE_FORMATTER" "Ljava/util/function/BiFunction;" .null A U H ∨ va_Z "jdk/internal/util/Preconditions" "SIOOBE_FORMATTER" "Ljava/util/function/BiFunction;" (.ref (G.2.2.1 60)) A U H)
theorem zEnv_to {G : zG} {A A1 : Nat → Prop} {s U : State} {H : Heap} {locs : List Loc} (h : zEnv G A s s.heap) (hS : va_S A s.heap H locs) (hU : U.heap = H) (hW : s.WarmedH U.vm) (hA : ∀ q, A1 q → A q) : zEnv G A1 U U.heap := by
  rw [hU]
  obtain ⟨⟨a1, a2⟩, ⟨b1, b2⟩, ⟨c1, c2, c3⟩, ⟨d1, d2⟩, e, ⟨f1, f2, f3, f4⟩, g, ⟨i, j⟩, ⟨n1, n2⟩, si⟩ := h
  have hv := hW.alike
  have hk := hS.2.1
  exact ⟨⟨a1.moved hv, a2.moved hv⟩, ⟨vx_Zq.moved hv ((b1.kept hk).narrow hA), vx_Zq.moved hv ((b2.kept hk).narrow hA)⟩,
    ⟨va_Z.moved hv ((c1.kept hk).narrow hA), va_Z.moved hv ((c2.kept hk).narrow hA), va_Z.moved hv ((c3.kept hk).narrow hA)⟩,
    ⟨va_T.moved hv ((d1.kept hk).narrow hA), va_T.moved hv ((d2.kept hk).narrow hA)⟩,
    fun x hx => va_O.moved hv (((e x hx).kept hk).narrow hA),
    ⟨va_Ef.moved hv ((f1.kept hk).narrow hA), va_Ef.moved hv ((f2.kept hk).narrow hA), va_Ef.moved hv ((f3.kept hk).narrow hA), va_Ef.moved hv ((f4.kept hk).narrow hA)⟩,
    fun x hx => ⟨va_O.moved hv (((g x hx).1.kept hk).narrow hA), va_OF.moved hv (((g x hx).2.1.kept hk).narrow hA), va_OF.moved hv (((g x hx).2.2.1.kept hk).narrow hA), va_T.moved hv (((g x hx).2.2.2.kept hk).narrow hA)⟩,
    ⟨vk_R.warm hW i, fun q hq => (j q hq).elim fun sa h => ⟨sa, vk_R.warm hW h⟩⟩, ⟨va_Nc.moved hv n1, va_Nc.moved hv n2⟩, si.imp (fun h => va_Z.moved hv ((h.kept hk).narrow hA)) (fun h => va_Z.moved hv ((h.kept hk).narrow hA))⟩
/-- the tables' words that last -/
def zt_k (w : Cond) : Bool := match w with
  | .fieldLinkNest .. => true
  | .methodLinkNest .. => true
  | .castable .. => true
  | .declares .. => true
  | _ => false
def zTab (U : State) : Prop := ∀ w ∈ lw_tbl, (goodWord w || zt_k w) = true → ∀ a, w.before a U = true
theorem zTab_warm {s U : State} (hW : s.WarmedH U.vm) (h : zTab s) : zTab U := by
  intro w hw hg a
  have h1 := h w hw hg #[]
  rw [Bool.or_eq_true] at hg
  rcases hg with hg | hg
  · exact word_at hW (good_of_word hg) h1
  · cases w <;> simp only [zt_k] at hg <;> first | (exact absurd hg (by decide)) | skip
    · exact va_Nw.use rfl (va_Nw.warmM hW (va_Nw.of rfl h1))
    · exact va_Nw.use rfl (va_Nw.warmF hW (va_Nw.of rfl h1))
    all_goals first | exact va_Nw.use rfl (va_Nw.warmC hW (va_Nw.of rfl h1)) | exact va_Nw.use rfl (va_Nw.warmD hW (va_Nw.of rfl h1))
theorem zTab.at {s : State} (h : zTab s) {w : Cond} (hw : w ∈ lw_tbl) (hg : (goodWord w || zt_k w) = true) (a : Array Value) : w.before a s = true := h w hw hg a
/-- a method's frame: the machine, the tables, the constants -/
def zCx (Y : zY) (d mc ms : Nat) (p : Program) (l : Launch) (R : Room) (s : State) (m : MethodId) (meth : Method) (c : Code) (G : zG) (A : Nat → Prop) : Prop :=
  l.flags = flags0 ∧ (d ≤ R.frames ∧ 34 * d ≤ R.locals ∧ mc ≤ R.cells ∧ ms ≤ R.slots) ∧ p.tables.exec = Jvm.exec ∧ c.code = Y.2.1 ∧ c.maxLocals = Y.2.2.1 ∧ meth.sig.returnType = Y.2.2.2.1 ∧ s.vm.findClass Y.1.cls = some m.cls ∧ meth.locks = false ∧ meth.name = Y.1.name ∧ c.exceptionTable.toList = tableOf Y.2.2.2.2 ∧ zTab s ∧ zEnv G A s s.heap ∧ (∀ q : Nat, s.heap.size ≤ q → A q)
def zSt (G : zG) (A : Nat → Prop) (ad : Nat → Nat) (s : State) (H : Heap) (locs : List Loc) (w : List zE) : Prop := va_P G.1 vwCl (zw G ad w) H ∧ va_D A (zw G ad w) ∧ va_S A s.heap H locs
def zAg (n0 n : Nat) (ad ad0 : Nat → Nat) : Prop := ∀ k, k < n0 ∨ n ≤ k → ad k = ad0 k
def zXC (G : zG) (A : Nat → Prop) (ad0 : Nat → Nat) (n0 : Nat) (Post : zP → List zE → Prop) : String → State → State → Prop := fun E st t =>
  (∃ (w' : List zE) (ad : Nat → Nat), Post (.inr E) w' ∧ n0 ≤ w'.length ∧ zAg n0 w'.length ad ad0 ∧ va_P G.1 vwCl (zw G ad w') t.heap ∧ va_D A (zw G ad w')) ∧ va_F A st t
/-- the instruction that answers v -/
def zRet (Y : zY) (pc : Nat) (v : Option zV) : Prop := match v with
  | none => Y.2.2.2.1 = none ∧ decode Y.2.1 pc = .ok (.return_, 1)
  | some (.inl n) => decode Y.2.1 pc = .ok (.ireturn, 1) ∧ (Y.2.2.2.1 = some .int ∨ (Y.2.2.2.1 = some .boolean ∧ (n = 0 ∨ n = 1)) ∨ (Y.2.2.2.1 = some .char ∧ 0 ≤ n ∧ n < 65536) ∨ (Y.2.2.2.1 = some .byte ∧ 0 ≤ n ∧ n < 128))
  | some (.inr (.inl _)) => decode Y.2.1 pc = .ok (.lreturn, 1) ∧ Y.2.2.2.1 = some .long
  | some (.inr (.inr _)) => decode Y.2.1 pc = .ok (.areturn, 1) ∧ ∃ n, Y.2.2.2.1 = some (.object n)
/-- what suffices at the ends -/
def zFin (Y : zY) (mc ms n0 : Nat) (Post : zP → List zE → Prop) (p : Program) (l : Launch) (e : Env) (R : Room) (s : State) (m : MethodId) (args : Array Value) (below : List Frame) (meth : Method) (c : Code) (G : zG) (A : Nat → Prop) (ad0 : Nat → Nat) (Qm : State → Prop) : Prop :=
  (∀ (v : Option zV) (w' : List zE) (ad : Nat → Nat) (H : Heap) (locs : List Loc) (lsA : Array Slot) (pc nc ns : Nat), Post (.inl v) w' → zRet Y pc v → nc ≤ mc → ns ≤ ms → n0 ≤ w'.length → zAg n0 w'.length ad ad0 → zSt G A ad s H locs w' →
    W p l e R s m args below meth c H locs nc ns Qm (F0 m pc lsA (v.toList.map (zc G.2.2.1 ad)))) ∧
  ∀ U, vx_MQ below (fun _ _ _ _ => False) (zXC G A ad0 n0 Post) args s mc ms A U → Qm U
def zls (ac ad : Nat → Nat) (ls : List (Nat × zV)) : List (Nat × Value) := ls.map fun q => (q.1, zc ac ad q.2)
/-- from this place in the method, with these locals, this stack, this world: it ends as Post says -/
def Wa (Y : zY) (d mc ms n0 : Nat) (Post : zP → List zE → Prop) (pc : Nat) (ls : List (Nat × zV)) (st : List zV) (w : List zE) (nc ns : Nat) : Prop :=
  ∀ (p : Program) (l : Launch) (e : Env) (R : Room) (s : State) (m : MethodId) (args : Array Value) (below : List Frame) (meth : Method) (c : Code) (G : zG) (A : Nat → Prop) (ad0 : Nat → Nat) (Qm : State → Prop),
    zCx Y d mc ms p l R s m meth c G A → zFin Y mc ms n0 Post p l e R s m args below meth c G A ad0 Qm →
    ∀ (ad : Nat → Nat) (H : Heap) (locs : List Loc) (lsA : Array Slot), n0 ≤ w.length ∧ zAg n0 w.length ad ad0 → zSt G A ad s H locs w → lv_has lsA Y.2.2.1 (zls G.2.2.1 ad ls) →
      W p l e R s m args below meth c H locs nc ns Qm (F0 m pc lsA (st.map (zc G.2.2.1 ad)))
abbrev zin (a : Int) : Prop := -2147483648 ≤ a ∧ a ≤ 2147483647
theorem zin_t {a : Int} (h : zin a) : (Int32.ofInt a).toInt = a := Int32.toInt_ofInt_of_le (by omega) (by omega)
theorem zi_lt {a b : Int} (ha : zin a) (hb : zin b) : Int32.ofInt a < Int32.ofInt b ↔ a < b := by rw [Int32.lt_iff_toInt_lt, zin_t ha, zin_t hb]
theorem zi_le {a b : Int} (ha : zin a) (hb : zin b) : Int32.ofInt a ≤ Int32.ofInt b ↔ a ≤ b := by rw [Int32.le_iff_toInt_le, zin_t ha, zin_t hb]
theorem zi_eq {a b : Int} (ha : zin a) (hb : zin b) : Int32.ofInt a = Int32.ofInt b ↔ a = b := by rw [← Int32.toInt_inj, zin_t ha, zin_t hb]
theorem zi_cl {a : Int} (ha : zin a) : (Int32.ofInt a).toNatClampNeg = a.toNat := by show (Int32.ofInt a).toInt.toNat = _; rw [zin_t ha]
theorem zi_0 : Int32.ofInt 0 = 0 := rfl
theorem zi_vp {a : Int} {n : Nat} (h0 : 0 ≤ a) (h1 : a < n) (hn : n < 2147483648) : vp_in (Int32.ofInt a) n := by
  have hz : zin a := ⟨by omega, by omega⟩
  rw [vp_in_iff, zin_t hz]
  exact ⟨h0, h1⟩
def zup (f : Int → Int) (i x : Int) : Int → Int := fun j => if j = i then x else f j
theorem zup_same (f : Int → Int) (i x : Int) : zup f i x i = x := by simp [zup]
theorem zup_ne (f : Int → Int) {i j : Int} (x : Int) (h : j ≠ i) : zup f i x j = f j := by simp [zup, h]
theorem zup_f (f : Int → Int) {i : Int} (x : Int) (h : 0 ≤ i) : upd (fun j : Nat => Int32.ofInt (f j)) i.toNat (Int32.ofInt x) = fun j : Nat => Int32.ofInt (zup f i x j) := by
  funext j
  simp only [upd, zup]
  by_cases hj : (j : Int) = i
  · rw [if_pos hj, if_pos (by omega)]
  · rw [if_neg hj, if_neg (by omega)]
/-- the local i -/
def zget : List (Nat × zV) → Nat → Option zV
  | [], _ => none
  | q :: l, i => match Nat.beq q.1 i with
    | true => some q.2
    | false => zget l i
theorem zget_at {ac ad : Nat → Nat} {ls : List (Nat × zV)} {i n : Nat} {v : zV} {lsA : Array Slot} (h : lv_has lsA n (zls ac ad ls)) (hg : zget ls i = some v) : lsA[i]? = some (.val (zc ac ad v)) := by
  have hm : ∀ l : List (Nat × zV), zget l i = some v → (i, v) ∈ l := by
    intro l
    induction l with
    | nil => intro h; cases h
    | cons q l ih =>
      intro h
      simp only [zget] at h
      cases hb : Nat.beq q.1 i with
      | true => rw [hb] at h; have e := Nat.eq_of_beq_eq_true hb; cases h; rw [← e]; exact List.mem_cons_self
      | false => rw [hb] at h; exact List.mem_cons_of_mem _ (ih h)
  exact h.2.2 (i, zc ac ad v) (List.mem_map.mpr ⟨(i, v), hm ls hg, rfl⟩)
def zcat (v : zV) : Nat := match v with
  | .inr (.inl _) => 2
  | _ => 1
theorem zcat_c (ac ad : Nat → Nat) (v : zV) : (zc ac ad v).category = zcat v := by
  rcases v with n | n | _ | k | k <;> rfl
def zput1 (ls : List (Nat × zV)) (i : Nat) (v : zV) : List (Nat × zV) := (i, v) :: ls.filter fun q => !(q.1 == i) && !(q.1 + 1 == i && zcat q.2 == 2)
def zput2 (ls : List (Nat × zV)) (i : Nat) (v : zV) : List (Nat × zV) := (i, v) :: ls.filter fun q => !(q.1 == i) && (!(q.1 == i + 1) && !(q.1 + 1 == i && zcat q.2 == 2))
theorem zput1_c (ac ad : Nat → Nat) (ls : List (Nat × zV)) (i : Nat) (v : zV) : (i, zc ac ad v) :: (zls ac ad ls).filter (fun q => !(q.1 == i) && !(q.1 + 1 == i && q.2.category == 2)) = zls ac ad (zput1 ls i v) := by
  simp only [zls, zput1, List.map_cons, List.filter_map]
  congr 2
  apply List.filter_congr
  intro q _
  simp only [Function.comp, zcat_c]
theorem zput2_c (ac ad : Nat → Nat) (ls : List (Nat × zV)) (i : Nat) (v : zV) : (i, zc ac ad v) :: (zls ac ad ls).filter (fun q => !(q.1 == i) && (!(q.1 == i + 1) && !(q.1 + 1 == i && q.2.category == 2))) = zls ac ad (zput2 ls i v) := by
  simp only [zls, zput2, List.map_cons, List.filter_map]
  congr 2
  apply List.filter_congr
  intro q _
  simp only [Function.comp, zcat_c]
section ZW
variable {Y : zY} {d mc ms n0 : Nat} {Post : zP → List zE → Prop} {pc pc' : Nat} {ls : List (Nat × zV)} {st : List zV} {w : List zE} {nc ns : Nat}
theorem Wa.eq {pc2 : Nat} {ls2 : List (Nat × zV)} {st2 : List zV} {w2 : List zE} (h : Wa Y d mc ms n0 Post pc2 ls2 st2 w2 nc ns) (e1 : pc2 = pc) (e2 : ls2 = ls) (e3 : st2 = st) (e4 : w2 = w) : Wa Y d mc ms n0 Post pc ls st w nc ns := by
  subst e1; subst e2; subst e3; subst e4; exact h
theorem zls_sub {lsA : Array Slot} {n : Nat} {l l' : List (Nat × Value)} (h : lv_has lsA n l) (hs : ∀ q ∈ l', q ∈ l) : lv_has lsA n l' := ⟨h.1, h.2.1, fun q hq => h.2.2 q (hs q hq)⟩
/-- fewer locals, by their places -/
theorem wa_sub {ls' : List (Nat × zV)} (ks : List Nat) (hk : ks.filterMap (fun k => ls[k]?) = ls') (k : Wa Y d mc ms n0 Post pc ls' st w nc ns) : Wa Y d mc ms n0 Post pc ls st w nc ns := by
  intro p l e R s m args below meth c G A ad0 Qm C F ad H locs lsA hag hst hl
  refine k p l e R s m args below meth c G A ad0 Qm C F ad H locs lsA hag hst (zls_sub hl ?_)
  intro q hq
  subst hk
  obtain ⟨x, hx, rfl⟩ := List.mem_map.mp hq
  obtain ⟨i, -, hi⟩ := List.mem_filterMap.mp hx
  exact List.mem_map.mpr ⟨x, List.mem_of_getElem? hi, rfl⟩
theorem wa_iload_n {q : Fin 4} {i : Nat} {x : Int} (hd : decode Y.2.1 pc = .ok (.iload_n q, 1)) (hp : pc + 1 = pc') (hi : (q : Nat) = i) (hg : zget ls i = some (zI x)) (k : Wa Y d mc ms n0 Post pc' ls (zI x :: st) w nc ns) : Wa Y d mc ms n0 Post pc ls st w nc ns := by
  subst hp
  intro p l e R s m args below meth c G A ad0 Qm C F ad H locs lsA hag hst hl
  have kk := k p l e R s m args below meth c G A ad0 Qm C F ad H locs lsA hag hst hl
  obtain ⟨-, -, hx, hb, -⟩ := C
  exact lv_iload_n hx hb hd hi (zget_at hl hg) kk
theorem wa_iload {i : Nat} {x : Int} (hd : decode Y.2.1 pc = .ok (.iload i, 2)) (hp : pc + 2 = pc') (hg : zget ls i = some (zI x)) (k : Wa Y d mc ms n0 Post pc' ls (zI x :: st) w nc ns) : Wa Y d mc ms n0 Post pc ls st w nc ns := by
  subst hp
  intro p l e R s m args below meth c G A ad0 Qm C F ad H locs lsA hag hst hl
  have kk := k p l e R s m args below meth c G A ad0 Qm C F ad H locs lsA hag hst hl
  obtain ⟨-, -, hx, hb, -⟩ := C
  exact lv_iload hx hb hd (zget_at hl hg) kk
theorem wa_aload_n {q : Fin 4} {i : Nat} {x : Option (Nat ⊕ Nat)} (hd : decode Y.2.1 pc = .ok (.aload_n q, 1)) (hp : pc + 1 = pc') (hi : (q : Nat) = i) (hg : zget ls i = some (.inr (.inr x))) (k : Wa Y d mc ms n0 Post pc' ls (.inr (.inr x) :: st) w nc ns) : Wa Y d mc ms n0 Post pc ls st w nc ns := by
  subst hp
  intro p l e R s m args below meth c G A ad0 Qm C F ad H locs lsA hag hst hl
  have kk := k p l e R s m args below meth c G A ad0 Qm C F ad H locs lsA hag hst hl
  obtain ⟨-, -, hx, hb, -⟩ := C
  have hg' := zget_at hl hg
  rcases x with _ | k9 | k9
  · exact lv_aload_nN hx hb hd hi hg' kk
  · exact lv_aload_n hx hb hd hi hg' kk
  · exact lv_aload_n hx hb hd hi hg' kk
theorem wa_aload {i : Nat} {x : Option (Nat ⊕ Nat)} (hd : decode Y.2.1 pc = .ok (.aload i, 2)) (hp : pc + 2 = pc') (hg : zget ls i = some (.inr (.inr x))) (k : Wa Y d mc ms n0 Post pc' ls (.inr (.inr x) :: st) w nc ns) : Wa Y d mc ms n0 Post pc ls st w nc ns := by
  subst hp
  intro p l e R s m args below meth c G A ad0 Qm C F ad H locs lsA hag hst hl
  have kk := k p l e R s m args below meth c G A ad0 Qm C F ad H locs lsA hag hst hl
  obtain ⟨-, -, hx, hb, -⟩ := C
  have hg' := zget_at hl hg
  rcases x with _ | k9 | k9
  · exact lv_aloadN hx hb hd hg' kk
  · exact lv_aload hx hb hd hg' kk
  · exact lv_aload hx hb hd hg' kk
theorem wa_lload_n {q : Fin 4} {i : Nat} {x : Int} (hd : decode Y.2.1 pc = .ok (.lload_n q, 1)) (hp : pc + 1 = pc') (hi : (q : Nat) = i) (hg : zget ls i = some (zJ x)) (k : Wa Y d mc ms n0 Post pc' ls (zJ x :: st) w nc ns) : Wa Y d mc ms n0 Post pc ls st w nc ns := by
  subst hp
  intro p l e R s m args below meth c G A ad0 Qm C F ad H locs lsA hag hst hl
  have kk := k p l e R s m args below meth c G A ad0 Qm C F ad H locs lsA hag hst hl
  obtain ⟨-, -, hx, hb, -⟩ := C
  exact lv_lload_n hx hb hd hi (zget_at hl hg) kk
theorem wa_istore_n {q : Fin 4} {i : Nat} {x : Int} {ls' : List (Nat × zV)} (hd : decode Y.2.1 pc = .ok (.istore_n q, 1)) (hp : pc + 1 = pc') (hi : (q : Nat) = i) (hn : i < Y.2.2.1) (hl9 : zput1 ls i (zI x) = ls') (k : Wa Y d mc ms n0 Post pc' ls' st w nc ns) : Wa Y d mc ms n0 Post pc ls (zI x :: st) w nc ns := by
  subst hl9
  subst hp
  intro p l e R s m args below meth c G A ad0 Qm C F ad H locs lsA hag hst hl
  have kk := fun lsA' hl' => k p l e R s m args below meth c G A ad0 Qm C F ad H locs lsA' hag hst hl'
  obtain ⟨-, -, hx, hb, -⟩ := C
  exact lv_istore_n hx hb hd hi hl hn (zput1_c G.2.2.1 ad ls i (zI x)) (fun lsA' hl' => kk lsA' hl')
theorem wa_istore {i : Nat} {x : Int} {ls' : List (Nat × zV)} (hd : decode Y.2.1 pc = .ok (.istore i, 2)) (hp : pc + 2 = pc') (hn : i < Y.2.2.1) (hl9 : zput1 ls i (zI x) = ls') (k : Wa Y d mc ms n0 Post pc' ls' st w nc ns) : Wa Y d mc ms n0 Post pc ls (zI x :: st) w nc ns := by
  subst hl9
  subst hp
  intro p l e R s m args below meth c G A ad0 Qm C F ad H locs lsA hag hst hl
  have kk := fun lsA' hl' => k p l e R s m args below meth c G A ad0 Qm C F ad H locs lsA' hag hst hl'
  obtain ⟨-, -, hx, hb, -⟩ := C
  exact lv_istore hx hb hd hl hn (zput1_c G.2.2.1 ad ls i (zI x)) (fun lsA' hl' => kk lsA' hl')
theorem wa_astore_n {q : Fin 4} {i : Nat} {x : Option (Nat ⊕ Nat)} {ls' : List (Nat × zV)} (hd : decode Y.2.1 pc = .ok (.astore_n q, 1)) (hp : pc + 1 = pc') (hi : (q : Nat) = i) (hn : i < Y.2.2.1) (hl9 : zput1 ls i (.inr (.inr x)) = ls') (k : Wa Y d mc ms n0 Post pc' ls' st w nc ns) : Wa Y d mc ms n0 Post pc ls (.inr (.inr x) :: st) w nc ns := by
  subst hl9
  subst hp
  intro p l e R s m args below meth c G A ad0 Qm C F ad H locs lsA hag hst hl
  have kk := fun lsA' hl' => k p l e R s m args below meth c G A ad0 Qm C F ad H locs lsA' hag hst hl'
  obtain ⟨-, -, hx, hb, -⟩ := C
  rcases x with _ | k9 | k9
  · exact lv_astore_nN hx hb hd hi hl hn (zput1_c G.2.2.1 ad ls i zN) (fun lsA' hl' => kk lsA' hl')
  · exact lv_astore_n hx hb hd hi hl hn (zput1_c G.2.2.1 ad ls i (zR k9)) (fun lsA' hl' => kk lsA' hl')
  · exact lv_astore_n hx hb hd hi hl hn (zput1_c G.2.2.1 ad ls i (zK k9)) (fun lsA' hl' => kk lsA' hl')
theorem wa_astore {i : Nat} {x : Option (Nat ⊕ Nat)} {ls' : List (Nat × zV)} (hd : decode Y.2.1 pc = .ok (.astore i, 2)) (hp : pc + 2 = pc') (hn : i < Y.2.2.1) (hl9 : zput1 ls i (.inr (.inr x)) = ls') (k : Wa Y d mc ms n0 Post pc' ls' st w nc ns) : Wa Y d mc ms n0 Post pc ls (.inr (.inr x) :: st) w nc ns := by
  subst hl9
  subst hp
  intro p l e R s m args below meth c G A ad0 Qm C F ad H locs lsA hag hst hl
  have kk := fun lsA' hl' => k p l e R s m args below meth c G A ad0 Qm C F ad H locs lsA' hag hst hl'
  obtain ⟨-, -, hx, hb, -⟩ := C
  rcases x with _ | k9 | k9
  · exact lv_astoreN hx hb hd hl hn (zput1_c G.2.2.1 ad ls i zN) (fun lsA' hl' => kk lsA' hl')
  · exact lv_astore hx hb hd hl hn (zput1_c G.2.2.1 ad ls i (zR k9)) (fun lsA' hl' => kk lsA' hl')
  · exact lv_astore hx hb hd hl hn (zput1_c G.2.2.1 ad ls i (zK k9)) (fun lsA' hl' => kk lsA' hl')
theorem wa_lstore_n {q : Fin 4} {i : Nat} {x : Int} {ls' : List (Nat × zV)} (hd : decode Y.2.1 pc = .ok (.lstore_n q, 1)) (hp : pc + 1 = pc') (hi : (q : Nat) = i) (hn : i + 1 < Y.2.2.1) (hl9 : zput2 ls i (zJ x) = ls') (k : Wa Y d mc ms n0 Post pc' ls' st w nc ns) : Wa Y d mc ms n0 Post pc ls (zJ x :: st) w nc ns := by
  subst hl9
  subst hp
  intro p l e R s m args below meth c G A ad0 Qm C F ad H locs lsA hag hst hl
  have kk := fun lsA' hl' => k p l e R s m args below meth c G A ad0 Qm C F ad H locs lsA' hag hst hl'
  obtain ⟨-, -, hx, hb, -⟩ := C
  exact lv_lstore_n hx hb hd hi hl hn (zput2_c G.2.2.1 ad ls i (zJ x)) (fun lsA' hl' => kk lsA' hl')
theorem wa_iinc {i : Nat} {n x : Int} {ls' : List (Nat × zV)} (hd : decode Y.2.1 pc = .ok (.iinc i n, 3)) (hp : pc + 3 = pc') (hg : zget ls i = some (zI x)) (hn : i < Y.2.2.1) (hl9 : zput1 ls i (zI (x + n)) = ls') (k : Wa Y d mc ms n0 Post pc' ls' st w nc ns) : Wa Y d mc ms n0 Post pc ls st w nc ns := by
  subst hl9
  subst hp
  intro p l e R s m args below meth c G A ad0 Qm C F ad H locs lsA hag hst hl
  have kk := fun lsA' hl' => k p l e R s m args below meth c G A ad0 Qm C F ad H locs lsA' hag hst hl'
  obtain ⟨-, -, hx, hb, -⟩ := C
  have hm : (i, zc G.2.2.1 ad (zI x)) ∈ (i, zc G.2.2.1 ad (zI x)) :: zls G.2.2.1 ad ls := List.mem_cons_self
  have hl2 : lv_has lsA Y.2.2.1 ((i, zc G.2.2.1 ad (zI x)) :: zls G.2.2.1 ad ls) := ⟨hl.1, hl.2.1, fun q hq => by
    rcases List.mem_cons.mp hq with h | h
    · rw [h]; exact zget_at hl hg
    · exact hl.2.2 q h⟩
  refine lv_iinc hx hb hd hl2 (k := 0) rfl (v := Int32.ofInt (x + n)) (by rw [Int32.ofInt_add]) hn rfl (fun lsA' hl' => kk lsA' (zls_sub hl' ?_))
  intro q hq
  rw [← zput1_c] at hq
  rcases List.mem_cons.mp hq with h | h
  · rw [h]; exact List.mem_cons_self
  · obtain ⟨h1, h2⟩ := List.mem_filter.mp h
    exact List.mem_cons_of_mem _ (List.mem_filter.mpr ⟨List.mem_cons_of_mem _ h1, h2⟩)
theorem wa_iconst {n : Int} (hd : decode Y.2.1 pc = .ok (.iconst n, 1)) (hp : pc + 1 = pc') (k : Wa Y d mc ms n0 Post pc' ls (zI n :: st) w nc ns) : Wa Y d mc ms n0 Post pc ls st w nc ns := by
  subst hp
  intro p l e R s m args below meth c G A ad0 Qm C F ad H locs lsA hag hst hl
  have kk := k p l e R s m args below meth c G A ad0 Qm C F ad H locs lsA hag hst hl
  obtain ⟨-, -, hx, hb, -⟩ := C
  exact lv_iconst hx hb hd rfl kk
theorem wa_bipush {n : Int} (hd : decode Y.2.1 pc = .ok (.bipush n, 2)) (hp : pc + 2 = pc') (hv : (Int8.ofInt n).toInt32 = Int32.ofInt n) (k : Wa Y d mc ms n0 Post pc' ls (zI n :: st) w nc ns) : Wa Y d mc ms n0 Post pc ls st w nc ns := by
  subst hp
  intro p l e R s m args below meth c G A ad0 Qm C F ad H locs lsA hag hst hl
  have kk := k p l e R s m args below meth c G A ad0 Qm C F ad H locs lsA hag hst hl
  obtain ⟨-, -, hx, hb, -⟩ := C
  exact lv_bipush hx hb hd hv kk
theorem wa_sipush {n : Int} (hd : decode Y.2.1 pc = .ok (.sipush n, 3)) (hp : pc + 3 = pc') (hv : (Int16.ofInt n).toInt32 = Int32.ofInt n) (k : Wa Y d mc ms n0 Post pc' ls (zI n :: st) w nc ns) : Wa Y d mc ms n0 Post pc ls st w nc ns := by
  subst hp
  intro p l e R s m args below meth c G A ad0 Qm C F ad H locs lsA hag hst hl
  have kk := k p l e R s m args below meth c G A ad0 Qm C F ad H locs lsA hag hst hl
  obtain ⟨-, -, hx, hb, -⟩ := C
  exact lv_sipush hx hb hd hv kk
theorem wa_null  (hd : decode Y.2.1 pc = .ok (.aconst_null, 1)) (hp : pc + 1 = pc') (k : Wa Y d mc ms n0 Post pc' ls (zN :: st) w nc ns) : Wa Y d mc ms n0 Post pc ls st w nc ns := by
  subst hp
  intro p l e R s m args below meth c G A ad0 Qm C F ad H locs lsA hag hst hl
  have kk := k p l e R s m args below meth c G A ad0 Qm C F ad H locs lsA hag hst hl
  obtain ⟨-, -, hx, hb, -⟩ := C
  exact lv_null hx hb hd kk
theorem wa_iadd {a b : Int} (hd : decode Y.2.1 pc = .ok (.iadd, 1)) (hp : pc + 1 = pc') (k : Wa Y d mc ms n0 Post pc' ls (zI (a + b) :: st) w nc ns) : Wa Y d mc ms n0 Post pc ls (zI b :: zI a :: st) w nc ns := by
  subst hp
  intro p l e R s m args below meth c G A ad0 Qm C F ad H locs lsA hag hst hl
  have kk := k p l e R s m args below meth c G A ad0 Qm C F ad H locs lsA hag hst hl
  obtain ⟨-, -, hx, hb, -⟩ := C
  refine lv_iadd hx hb hd ?_
  rw [← Int32.ofInt_add]
  exact kk
theorem wa_isub {a b : Int} (hd : decode Y.2.1 pc = .ok (.isub, 1)) (hp : pc + 1 = pc') (k : Wa Y d mc ms n0 Post pc' ls (zI (a - b) :: st) w nc ns) : Wa Y d mc ms n0 Post pc ls (zI b :: zI a :: st) w nc ns := by
  subst hp
  intro p l e R s m args below meth c G A ad0 Qm C F ad H locs lsA hag hst hl
  have kk := k p l e R s m args below meth c G A ad0 Qm C F ad H locs lsA hag hst hl
  obtain ⟨-, -, hx, hb, -⟩ := C
  refine lv_isub hx hb hd ?_
  rw [← Int32.ofInt_sub]
  exact kk
theorem wa_imul {a b : Int} (hd : decode Y.2.1 pc = .ok (.imul, 1)) (hp : pc + 1 = pc') (k : Wa Y d mc ms n0 Post pc' ls (zI (a * b) :: st) w nc ns) : Wa Y d mc ms n0 Post pc ls (zI b :: zI a :: st) w nc ns := by
  subst hp
  intro p l e R s m args below meth c G A ad0 Qm C F ad H locs lsA hag hst hl
  have kk := k p l e R s m args below meth c G A ad0 Qm C F ad H locs lsA hag hst hl
  obtain ⟨-, -, hx, hb, -⟩ := C
  refine lv_imul hx hb hd ?_
  rw [← Int32.ofInt_mul]
  exact kk
theorem wa_ineg {a : Int} (hd : decode Y.2.1 pc = .ok (.ineg, 1)) (hp : pc + 1 = pc') (k : Wa Y d mc ms n0 Post pc' ls (zI (-a) :: st) w nc ns) : Wa Y d mc ms n0 Post pc ls (zI a :: st) w nc ns := by
  subst hp
  intro p l e R s m args below meth c G A ad0 Qm C F ad H locs lsA hag hst hl
  have kk := k p l e R s m args below meth c G A ad0 Qm C F ad H locs lsA hag hst hl
  obtain ⟨-, -, hx, hb, -⟩ := C
  refine lv_ineg hx hb hd ?_
  rw [← Int32.ofInt_neg]
  exact kk
theorem wa_ladd {a b : Int} (hd : decode Y.2.1 pc = .ok (.ladd, 1)) (hp : pc + 1 = pc') (k : Wa Y d mc ms n0 Post pc' ls (zJ (a + b) :: st) w nc ns) : Wa Y d mc ms n0 Post pc ls (zJ b :: zJ a :: st) w nc ns := by
  subst hp
  intro p l e R s m args below meth c G A ad0 Qm C F ad H locs lsA hag hst hl
  have kk := k p l e R s m args below meth c G A ad0 Qm C F ad H locs lsA hag hst hl
  obtain ⟨-, -, hx, hb, -⟩ := C
  refine lv_ladd hx hb hd ?_
  rw [← Int64.ofInt_add]
  exact kk
theorem wa_lmul {a b : Int} (hd : decode Y.2.1 pc = .ok (.lmul, 1)) (hp : pc + 1 = pc') (k : Wa Y d mc ms n0 Post pc' ls (zJ (a * b) :: st) w nc ns) : Wa Y d mc ms n0 Post pc ls (zJ b :: zJ a :: st) w nc ns := by
  subst hp
  intro p l e R s m args below meth c G A ad0 Qm C F ad H locs lsA hag hst hl
  have kk := k p l e R s m args below meth c G A ad0 Qm C F ad H locs lsA hag hst hl
  obtain ⟨-, -, hx, hb, -⟩ := C
  refine lv_lmul hx hb hd ?_
  rw [← Int64.ofInt_mul]
  exact kk
theorem wa_i2l {a : Int} (hd : decode Y.2.1 pc = .ok (.i2l, 1)) (hp : pc + 1 = pc') (hz : zin a) (k : Wa Y d mc ms n0 Post pc' ls (zJ a :: st) w nc ns) : Wa Y d mc ms n0 Post pc ls (zI a :: st) w nc ns := by
  subst hp
  intro p l e R s m args below meth c G A ad0 Qm C F ad H locs lsA hag hst hl
  have kk := k p l e R s m args below meth c G A ad0 Qm C F ad H locs lsA hag hst hl
  obtain ⟨-, -, hx, hb, -⟩ := C
  exact lv_i2l hx hb hd (Int32.toInt64_ofInt (by have := hz.1; show (-2147483648 : Int) ≤ a; omega) (by have := hz.2; show a ≤ (2147483647 : Int); omega)) kk
theorem wa_dup {v : zV} (hd : decode Y.2.1 pc = .ok (.dup, 1)) (hp : pc + 1 = pc') (hv : zcat v = 1) (k : Wa Y d mc ms n0 Post pc' ls (v :: v :: st) w nc ns) : Wa Y d mc ms n0 Post pc ls (v :: st) w nc ns := by
  subst hp
  intro p l e R s m args below meth c G A ad0 Qm C F ad H locs lsA hag hst hl
  have kk := k p l e R s m args below meth c G A ad0 Qm C F ad H locs lsA hag hst hl
  obtain ⟨-, -, hx, hb, -⟩ := C
  exact lv_dup hx hb hd (by rw [zcat_c]; exact hv) kk
theorem wa_dup2 {v u : zV} (hd : decode Y.2.1 pc = .ok (.dup2, 1)) (hp : pc + 1 = pc') (hv : zcat v = 1) (hu : zcat u = 1) (k : Wa Y d mc ms n0 Post pc' ls (v :: u :: v :: u :: st) w nc ns) : Wa Y d mc ms n0 Post pc ls (v :: u :: st) w nc ns := by
  subst hp
  intro p l e R s m args below meth c G A ad0 Qm C F ad H locs lsA hag hst hl
  have kk := k p l e R s m args below meth c G A ad0 Qm C F ad H locs lsA hag hst hl
  obtain ⟨-, -, hx, hb, -⟩ := C
  exact lv_dup2_11 hx hb hd (by rw [zcat_c]; exact hv) (by rw [zcat_c]; exact hu) kk
theorem wa_pop {v : zV} (hd : decode Y.2.1 pc = .ok (.pop, 1)) (hp : pc + 1 = pc') (hv : zcat v = 1) (k : Wa Y d mc ms n0 Post pc' ls st w nc ns) : Wa Y d mc ms n0 Post pc ls (v :: st) w nc ns := by
  subst hp
  intro p l e R s m args below meth c G A ad0 Qm C F ad H locs lsA hag hst hl
  have kk := k p l e R s m args below meth c G A ad0 Qm C F ad H locs lsA hag hst hl
  obtain ⟨-, -, hx, hb, -⟩ := C
  exact lv_pop hx hb hd (by rw [zcat_c]; exact hv) kk
theorem wa_goto {off : Int} (hd : decode Y.2.1 pc = .ok (.goto off, 3)) (ht : (pc : Int) + off = (pc' : Int)) (k : Wa Y d mc ms n0 Post pc' ls st w nc ns) : Wa Y d mc ms n0 Post pc ls st w nc ns := by
  intro p l e R s m args below meth c G A ad0 Qm C F ad H locs lsA hag hst hl
  have kk := k p l e R s m args below meth c G A ad0 Qm C F ad H locs lsA hag hst hl
  obtain ⟨-, -, hx, hb, -⟩ := C
  exact lv_goto hx hb hd ht kk
theorem wa_icmp_lt {off : Int} {tgt : Nat} {a b : Int} (hd : decode Y.2.1 pc = .ok (.if_icmp .lt off, 3)) (ht : (pc : Int) + off = (tgt : Int)) (hp : pc + 3 = pc') (ha : zin a) (hb9 : zin b) (kt : a < b → Wa Y d mc ms n0 Post tgt ls st w nc ns) (kf : ¬ (a < b) → Wa Y d mc ms n0 Post pc' ls st w nc ns) : Wa Y d mc ms n0 Post pc ls (zI b :: zI a :: st) w nc ns := by
  subst hp
  intro p l e R s m args below meth c G A ad0 Qm C F ad H locs lsA hag hst hl
  have kkt := fun h => kt h p l e R s m args below meth c G A ad0 Qm C F ad H locs lsA hag hst hl
  have kkf := fun h => kf h p l e R s m args below meth c G A ad0 Qm C F ad H locs lsA hag hst hl
  obtain ⟨-, -, hx, hb, -⟩ := C
  exact lv_icmp_lt hx hb hd ht (fun h => kkt ((zi_lt ha hb9).mp h)) (fun h => kkf (fun h2 => h ((zi_lt ha hb9).mpr h2)))
theorem wa_icmp_ge {off : Int} {tgt : Nat} {a b : Int} (hd : decode Y.2.1 pc = .ok (.if_icmp .ge off, 3)) (ht : (pc : Int) + off = (tgt : Int)) (hp : pc + 3 = pc') (ha : zin a) (hb9 : zin b) (kt : b ≤ a → Wa Y d mc ms n0 Post tgt ls st w nc ns) (kf : ¬ (b ≤ a) → Wa Y d mc ms n0 Post pc' ls st w nc ns) : Wa Y d mc ms n0 Post pc ls (zI b :: zI a :: st) w nc ns := by
  subst hp
  intro p l e R s m args below meth c G A ad0 Qm C F ad H locs lsA hag hst hl
  have kkt := fun h => kt h p l e R s m args below meth c G A ad0 Qm C F ad H locs lsA hag hst hl
  have kkf := fun h => kf h p l e R s m args below meth c G A ad0 Qm C F ad H locs lsA hag hst hl
  obtain ⟨-, -, hx, hb, -⟩ := C
  exact lv_icmp_ge hx hb hd ht (fun h => kkt ((zi_le hb9 ha).mp h)) (fun h => kkf (fun h2 => h ((zi_le hb9 ha).mpr h2)))
theorem wa_icmp_gt {off : Int} {tgt : Nat} {a b : Int} (hd : decode Y.2.1 pc = .ok (.if_icmp .gt off, 3)) (ht : (pc : Int) + off = (tgt : Int)) (hp : pc + 3 = pc') (ha : zin a) (hb9 : zin b) (kt : b < a → Wa Y d mc ms n0 Post tgt ls st w nc ns) (kf : ¬ (b < a) → Wa Y d mc ms n0 Post pc' ls st w nc ns) : Wa Y d mc ms n0 Post pc ls (zI b :: zI a :: st) w nc ns := by
  subst hp
  intro p l e R s m args below meth c G A ad0 Qm C F ad H locs lsA hag hst hl
  have kkt := fun h => kt h p l e R s m args below meth c G A ad0 Qm C F ad H locs lsA hag hst hl
  have kkf := fun h => kf h p l e R s m args below meth c G A ad0 Qm C F ad H locs lsA hag hst hl
  obtain ⟨-, -, hx, hb, -⟩ := C
  exact lv_icmp_gt hx hb hd ht (fun h => kkt ((zi_lt hb9 ha).mp h)) (fun h => kkf (fun h2 => h ((zi_lt hb9 ha).mpr h2)))
theorem wa_icmp_le {off : Int} {tgt : Nat} {a b : Int} (hd : decode Y.2.1 pc = .ok (.if_icmp .le off, 3)) (ht : (pc : Int) + off = (tgt : Int)) (hp : pc + 3 = pc') (ha : zin a) (hb9 : zin b) (kt : a ≤ b → Wa Y d mc ms n0 Post tgt ls st w nc ns) (kf : ¬ (a ≤ b) → Wa Y d mc ms n0 Post pc' ls st w nc ns) : Wa Y d mc ms n0 Post pc ls (zI b :: zI a :: st) w nc ns := by
  subst hp
  intro p l e R s m args below meth c G A ad0 Qm C F ad H locs lsA hag hst hl
  have kkt := fun h => kt h p l e R s m args below meth c G A ad0 Qm C F ad H locs lsA hag hst hl
  have kkf := fun h => kf h p l e R s m args below meth c G A ad0 Qm C F ad H locs lsA hag hst hl
  obtain ⟨-, -, hx, hb, -⟩ := C
  exact lv_icmp_le hx hb hd ht (fun h => kkt ((zi_le ha hb9).mp h)) (fun h => kkf (fun h2 => h ((zi_le ha hb9).mpr h2)))
theorem wa_icmp_eq {off : Int} {tgt : Nat} {a b : Int} (hd : decode Y.2.1 pc = .ok (.if_icmp .eq off, 3)) (ht : (pc : Int) + off = (tgt : Int)) (hp : pc + 3 = pc') (ha : zin a) (hb9 : zin b) (kt : a = b → Wa Y d mc ms n0 Post tgt ls st w nc ns) (kf : ¬ (a = b) → Wa Y d mc ms n0 Post pc' ls st w nc ns) : Wa Y d mc ms n0 Post pc ls (zI b :: zI a :: st) w nc ns := by
  subst hp
  intro p l e R s m args below meth c G A ad0 Qm C F ad H locs lsA hag hst hl
  have kkt := fun h => kt h p l e R s m args below meth c G A ad0 Qm C F ad H locs lsA hag hst hl
  have kkf := fun h => kf h p l e R s m args below meth c G A ad0 Qm C F ad H locs lsA hag hst hl
  obtain ⟨-, -, hx, hb, -⟩ := C
  exact lv_icmp_eq hx hb hd ht (fun h => kkt ((zi_eq ha hb9).mp h)) (fun h => kkf (fun h2 => h ((zi_eq ha hb9).mpr h2)))
theorem wa_icmp_ne {off : Int} {tgt : Nat} {a b : Int} (hd : decode Y.2.1 pc = .ok (.if_icmp .ne off, 3)) (ht : (pc : Int) + off = (tgt : Int)) (hp : pc + 3 = pc') (ha : zin a) (hb9 : zin b) (kt : ¬ a = b → Wa Y d mc ms n0 Post tgt ls st w nc ns) (kf : a = b → Wa Y d mc ms n0 Post pc' ls st w nc ns) : Wa Y d mc ms n0 Post pc ls (zI b :: zI a :: st) w nc ns := by
  subst hp
  intro p l e R s m args below meth c G A ad0 Qm C F ad H locs lsA hag hst hl
  have kkt := fun h => kt h p l e R s m args below meth c G A ad0 Qm C F ad H locs lsA hag hst hl
  have kkf := fun h => kf h p l e R s m args below meth c G A ad0 Qm C F ad H locs lsA hag hst hl
  obtain ⟨-, -, hx, hb, -⟩ := C
  exact lv_icmp_ne hx hb hd ht (fun h => kkt (fun h2 => h ((zi_eq ha hb9).mpr h2))) (fun h => kkf ((zi_eq ha hb9).mp h))
theorem wa_if_lt {off : Int} {tgt : Nat} {a : Int} (hd : decode Y.2.1 pc = .ok (.ifCond .lt off, 3)) (ht : (pc : Int) + off = (tgt : Int)) (hp : pc + 3 = pc') (ha : zin a) (kt : a < 0 → Wa Y d mc ms n0 Post tgt ls st w nc ns) (kf : ¬ (a < 0) → Wa Y d mc ms n0 Post pc' ls st w nc ns) : Wa Y d mc ms n0 Post pc ls (zI a :: st) w nc ns := by
  subst hp
  intro p l e R s m args below meth c G A ad0 Qm C F ad H locs lsA hag hst hl
  have kkt := fun h => kt h p l e R s m args below meth c G A ad0 Qm C F ad H locs lsA hag hst hl
  have kkf := fun h => kf h p l e R s m args below meth c G A ad0 Qm C F ad H locs lsA hag hst hl
  obtain ⟨-, -, hx, hb, -⟩ := C
  have z0 : zin 0 := ⟨by omega, by omega⟩
  exact lv_if_lt hx hb hd ht (fun h => kkt ((zi_lt ha z0).mp h)) (fun h => kkf (fun h2 => h ((zi_lt ha z0).mpr h2)))
theorem wa_if_ge {off : Int} {tgt : Nat} {a : Int} (hd : decode Y.2.1 pc = .ok (.ifCond .ge off, 3)) (ht : (pc : Int) + off = (tgt : Int)) (hp : pc + 3 = pc') (ha : zin a) (kt : 0 ≤ a → Wa Y d mc ms n0 Post tgt ls st w nc ns) (kf : ¬ (0 ≤ a) → Wa Y d mc ms n0 Post pc' ls st w nc ns) : Wa Y d mc ms n0 Post pc ls (zI a :: st) w nc ns := by
  subst hp
  intro p l e R s m args below meth c G A ad0 Qm C F ad H locs lsA hag hst hl
  have kkt := fun h => kt h p l e R s m args below meth c G A ad0 Qm C F ad H locs lsA hag hst hl
  have kkf := fun h => kf h p l e R s m args below meth c G A ad0 Qm C F ad H locs lsA hag hst hl
  obtain ⟨-, -, hx, hb, -⟩ := C
  have z0 : zin 0 := ⟨by omega, by omega⟩
  exact lv_if_ge hx hb hd ht (fun h => kkt ((zi_le z0 ha).mp h)) (fun h => kkf (fun h2 => h ((zi_le z0 ha).mpr h2)))
theorem wa_if_gt {off : Int} {tgt : Nat} {a : Int} (hd : decode Y.2.1 pc = .ok (.ifCond .gt off, 3)) (ht : (pc : Int) + off = (tgt : Int)) (hp : pc + 3 = pc') (ha : zin a) (kt : 0 < a → Wa Y d mc ms n0 Post tgt ls st w nc ns) (kf : ¬ (0 < a) → Wa Y d mc ms n0 Post pc' ls st w nc ns) : Wa Y d mc ms n0 Post pc ls (zI a :: st) w nc ns := by
  subst hp
  intro p l e R s m args below meth c G A ad0 Qm C F ad H locs lsA hag hst hl
  have kkt := fun h => kt h p l e R s m args below meth c G A ad0 Qm C F ad H locs lsA hag hst hl
  have kkf := fun h => kf h p l e R s m args below meth c G A ad0 Qm C F ad H locs lsA hag hst hl
  obtain ⟨-, -, hx, hb, -⟩ := C
  have z0 : zin 0 := ⟨by omega, by omega⟩
  exact lv_if_gt hx hb hd ht (fun h => kkt ((zi_lt z0 ha).mp h)) (fun h => kkf (fun h2 => h ((zi_lt z0 ha).mpr h2)))
theorem wa_if_le {off : Int} {tgt : Nat} {a : Int} (hd : decode Y.2.1 pc = .ok (.ifCond .le off, 3)) (ht : (pc : Int) + off = (tgt : Int)) (hp : pc + 3 = pc') (ha : zin a) (kt : a ≤ 0 → Wa Y d mc ms n0 Post tgt ls st w nc ns) (kf : ¬ (a ≤ 0) → Wa Y d mc ms n0 Post pc' ls st w nc ns) : Wa Y d mc ms n0 Post pc ls (zI a :: st) w nc ns := by
  subst hp
  intro p l e R s m args below meth c G A ad0 Qm C F ad H locs lsA hag hst hl
  have kkt := fun h => kt h p l e R s m args below meth c G A ad0 Qm C F ad H locs lsA hag hst hl
  have kkf := fun h => kf h p l e R s m args below meth c G A ad0 Qm C F ad H locs lsA hag hst hl
  obtain ⟨-, -, hx, hb, -⟩ := C
  have z0 : zin 0 := ⟨by omega, by omega⟩
  exact lv_if_le hx hb hd ht (fun h => kkt ((zi_le ha z0).mp h)) (fun h => kkf (fun h2 => h ((zi_le ha z0).mpr h2)))
theorem wa_if_eq {off : Int} {tgt : Nat} {a : Int} (hd : decode Y.2.1 pc = .ok (.ifCond .eq off, 3)) (ht : (pc : Int) + off = (tgt : Int)) (hp : pc + 3 = pc') (ha : zin a) (kt : a = 0 → Wa Y d mc ms n0 Post tgt ls st w nc ns) (kf : ¬ (a = 0) → Wa Y d mc ms n0 Post pc' ls st w nc ns) : Wa Y d mc ms n0 Post pc ls (zI a :: st) w nc ns := by
  subst hp
  intro p l e R s m args below meth c G A ad0 Qm C F ad H locs lsA hag hst hl
  have kkt := fun h => kt h p l e R s m args below meth c G A ad0 Qm C F ad H locs lsA hag hst hl
  have kkf := fun h => kf h p l e R s m args below meth c G A ad0 Qm C F ad H locs lsA hag hst hl
  obtain ⟨-, -, hx, hb, -⟩ := C
  have z0 : zin 0 := ⟨by omega, by omega⟩
  exact lv_if_eq hx hb hd ht (fun h => kkt ((zi_eq ha z0).mp h)) (fun h => kkf (fun h2 => h ((zi_eq ha z0).mpr h2)))
theorem wa_if_ne {off : Int} {tgt : Nat} {a : Int} (hd : decode Y.2.1 pc = .ok (.ifCond .ne off, 3)) (ht : (pc : Int) + off = (tgt : Int)) (hp : pc + 3 = pc') (ha : zin a) (kt : ¬ a = 0 → Wa Y d mc ms n0 Post tgt ls st w nc ns) (kf : a = 0 → Wa Y d mc ms n0 Post pc' ls st w nc ns) : Wa Y d mc ms n0 Post pc ls (zI a :: st) w nc ns := by
  subst hp
  intro p l e R s m args below meth c G A ad0 Qm C F ad H locs lsA hag hst hl
  have kkt := fun h => kt h p l e R s m args below meth c G A ad0 Qm C F ad H locs lsA hag hst hl
  have kkf := fun h => kf h p l e R s m args below meth c G A ad0 Qm C F ad H locs lsA hag hst hl
  obtain ⟨-, -, hx, hb, -⟩ := C
  have z0 : zin 0 := ⟨by omega, by omega⟩
  exact lv_if_ne hx hb hd ht (fun h => kkt (fun h2 => h ((zi_eq ha z0).mpr h2))) (fun h => kkf ((zi_eq ha z0).mp h))
theorem wa_ifnull {off : Int} {tgt : Nat} {x : Option (Nat ⊕ Nat)} (hd : decode Y.2.1 pc = .ok (.ifnull off, 3)) (ht : (pc : Int) + off = (tgt : Int)) (hp : pc + 3 = pc') (kt : x = none → Wa Y d mc ms n0 Post tgt ls st w nc ns) (kf : ¬ x = none → Wa Y d mc ms n0 Post pc' ls st w nc ns) : Wa Y d mc ms n0 Post pc ls (.inr (.inr x) :: st) w nc ns := by
  subst hp
  intro p l e R s m args below meth c G A ad0 Qm C F ad H locs lsA hag hst hl
  have kkt := fun h => kt h p l e R s m args below meth c G A ad0 Qm C F ad H locs lsA hag hst hl
  have kkf := fun h => kf h p l e R s m args below meth c G A ad0 Qm C F ad H locs lsA hag hst hl
  obtain ⟨-, -, hx, hb, -⟩ := C
  rcases x with _ | k9 | k9
  · exact lv_ifnullN hx hb hd ht (kkt rfl)
  · exact lv_ifnull hx hb hd (kkf (fun h => nomatch h))
  · exact lv_ifnull hx hb hd (kkf (fun h => nomatch h))
theorem wa_ifnonnull {off : Int} {tgt : Nat} {x : Option (Nat ⊕ Nat)} (hd : decode Y.2.1 pc = .ok (.ifnonnull off, 3)) (ht : (pc : Int) + off = (tgt : Int)) (hp : pc + 3 = pc') (kt : ¬ x = none → Wa Y d mc ms n0 Post tgt ls st w nc ns) (kf : x = none → Wa Y d mc ms n0 Post pc' ls st w nc ns) : Wa Y d mc ms n0 Post pc ls (.inr (.inr x) :: st) w nc ns := by
  subst hp
  intro p l e R s m args below meth c G A ad0 Qm C F ad H locs lsA hag hst hl
  have kkt := fun h => kt h p l e R s m args below meth c G A ad0 Qm C F ad H locs lsA hag hst hl
  have kkf := fun h => kf h p l e R s m args below meth c G A ad0 Qm C F ad H locs lsA hag hst hl
  obtain ⟨-, -, hx, hb, -⟩ := C
  rcases x with _ | k9 | k9
  · exact lv_ifnonnullN hx hb hd (kkf rfl)
  · exact lv_ifnonnull hx hb hd ht (kkt (fun h => nomatch h))
  · exact lv_ifnonnull hx hb hd ht (kkt (fun h => nomatch h))
end ZW
