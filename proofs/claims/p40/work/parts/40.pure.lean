/-! the pure facts of the class's answers -/
/-- a sheet as it stands between calls -/
def okW (s : zSh) : Prop := okZ s ∧ s.2.1 0 = 0 ∧ (∀ k : Int, 0 ≤ k → k < s.2.2.2.1 → s.2.1 k ≤ s.2.1 (k + 1)) ∧ (∀ i : Int, 0 ≤ i → i < s.2.2.2.2.1 → 0 ≤ s.2.2.1 (i * 5 + 1) ∧ s.2.2.1 (i * 5 + 1) ≤ s.2.1 (s.2.2.1 (i * 5 + 0) + 1) - s.2.1 (s.2.2.1 (i * 5 + 0))) ∧ (∀ i j : Int, 0 ≤ i → i < j → j < s.2.2.2.2.1 → s.2.2.1 (i * 5 + 0) < s.2.2.1 (j * 5 + 0) ∨ (s.2.2.1 (i * 5 + 0) = s.2.2.1 (j * 5 + 0) ∧ s.2.2.1 (i * 5 + 1) ≤ s.2.2.1 (j * 5 + 1)))
theorem tmod12_b (x : Int) : -12 < x.tmod 12 ∧ x.tmod 12 < 12 := ⟨Int.lt_tmod_of_pos x (by decide), Int.tmod_lt_of_pos x (by decide)⟩
theorem tmod12 (x : Int) : (x.tmod 12 + 12).tmod 12 = x % 12 := by
  have h1 := tmod12_b x
  rw [Int.tmod_eq_emod_of_nonneg (by omega)]
  by_cases h : 0 ≤ x
  · rw [Int.tmod_eq_emod_of_nonneg h]; omega
  · have h2 := z_tmod_neg (a := x) (b := 12) (by omega) (by decide)
    by_cases h3 : x.tmod 12 = 0
    · have := h2.1 h3; omega
    · have := h2.2 h3; omega
theorem mnC_all : ∀ q : Nat, q < 10 → zMinor.getD q 0 = if q = 1 ∨ q = 3 ∨ q = 5 then 1 else 0 := by decide
theorem mnC {q : Int} (hq : 0 ≤ q ∧ q < 10) : zMinor.getD q.toNat 0 = if q = 1 ∨ q = 3 ∨ q = 5 then 1 else 0 := by
  rw [mnC_all q.toNat (by omega)]
  split <;> (split <;> omega)
theorem zwrap (a : Int) : Int32.ofInt a = Int32.ofInt (a + 4294967296) := by
  apply Int32.toInt_inj.mp
  rw [Int32.toInt_ofInt, Int32.toInt_ofInt]
  exact (Int.add_bmod_right ..).symm
theorem ite1 {P : Prop} [Decidable P] (h : ¬ (if P then (1 : Int) else 0) = 0) : P := by
  split at h
  · assumption
  · exact absurd rfl h
theorem ite0 {P : Prop} [Decidable P] (h : (if P then (1 : Int) else 0) = 0) : ¬ P := by
  split at h
  · exact absurd h (by decide)
  · assumption
theorem ite_P {α : Type} {P : α → Prop} {c : Prop} [Decidable c] {A B : α} (h1 : P A) (h2 : P B) : P (if c then A else B) := by split <;> assumption
theorem ntR_0 {g : Int → Int} {p : Int} (h : nat9 (g p) = 100) : ntR g p = (100, p) := if_pos h
theorem ntR_1 {g : Int → Int} {p : Int} (h : ¬ nat9 (g p) = 100) (h2 : g (p + 1) = 35) : ntR g p = (nat9 (g p) + 7, p + 1 + 1) := by
  rw [ntR, if_neg h, if_pos h2]
theorem ntR_2 {g : Int → Int} {p : Int} (h : ¬ nat9 (g p) = 100) (h1 : ¬ g (p + 1) = 35) (h2 : g (p + 1) = 98) : ntR g p = (nat9 (g p) - 7, p + 1 + 1) := by
  rw [ntR, if_neg h, if_neg h1, if_pos h2]
theorem ntR_3 {g : Int → Int} {p : Int} (h : ¬ nat9 (g p) = 100) (h1 : ¬ g (p + 1) = 35) (h2 : ¬ g (p + 1) = 98) : ntR g p = (nat9 (g p), p + 1) := by
  rw [ntR, if_neg h, if_neg h1, if_neg h2]
theorem ntR_100 (g : Int → Int) (p : Int) : (ntR g p).1 = 100 ↔ nat9 (g p) = 100 := by
  have h := nat9_b (g p)
  by_cases h0 : nat9 (g p) = 100
  · rw [ntR_0 h0]; exact ⟨fun _ => h0, fun _ => rfl⟩
  · by_cases h1 : g (p + 1) = 35
    · rw [ntR_1 h0 h1]; exact ⟨fun h => by have : nat9 (g p) + 7 = 100 := h; omega, fun h => absurd h h0⟩
    · by_cases h2 : g (p + 1) = 98
      · rw [ntR_2 h0 h1 h2]; exact ⟨fun h => by have : nat9 (g p) - 7 = 100 := h; omega, fun h => absurd h h0⟩
      · rw [ntR_3 h0 h1 h2]
theorem zup9_ne {f : Int → Int} {i x j : Int} (h : ¬ j = i) : zup f i x j = f j := if_neg h
theorem zup9_eq {f : Int → Int} {i x : Int} : zup f i x i = x := if_pos rfl
theorem plf_s {l pt : Int} (h : ¬ pcl l = pt) (hp : 0 ≤ pt ∧ pt < 12) : plf (l + 1) pt = plf l pt := by unfold plf pcl at *; omega
theorem plf_0 {l pt : Int} (h : pcl l = pt) (hp : 0 ≤ pt ∧ pt < 12) : plf l pt = l := by unfold plf pcl at *; omega
theorem plf_0e {l pt : Int} (h : l = plf l pt) (hp : 0 ≤ pt ∧ pt < 12) : pcl l = pt := by unfold plf pcl at *; omega
abbrev sF (s : zSh) (F : Int → Int) : zSh := (s.1, s.2.1, F, s.2.2.2)
theorem spl_b {pt sg si : Int} (hs : -6 ≤ sg ∧ sg ≤ 6) : -9 ≤ spl pt sg si ∧ spl pt sg si ≤ 14 := by
  have h1 := plf_b (sg - 3) pt
  have h2 := plf_b (-1) pt
  unfold spl
  split <;> omega
theorem okW_F {s : zSh} (h : okW s) {F : Int → Int} (h01 : ∀ i : Int, 0 ≤ i → i < s.2.2.2.2.1 → F (i * 5 + 0) = s.2.2.1 (i * 5 + 0) ∧ F (i * 5 + 1) = s.2.2.1 (i * 5 + 1)) (hb : ∀ j : Int, 0 ≤ j → j < 200 → -1000 ≤ F j ∧ F j ≤ 1000) (hN : okN (sF s F)) : okW (sF s F) := by
  obtain ⟨⟨hD, hn, hg, hm, hl⟩, g0, gT, gC, gS⟩ := h
  refine ⟨⟨⟨hD.1, hD.2.1, hD.2.2.1, hD.2.2.2.1, hb, hD.2.2.2.2.2⟩, hN, hg, hm, ?_⟩, g0, gT, ?_, ?_⟩
  · intro i h0 h1
    have h2 := hl i h0 h1
    have h3 := h01 i h0 h1
    show 0 ≤ F (i * 5 + 0) ∧ F (i * 5 + 0) < _
    rw [h3.1]
    exact h2
  · intro i h0 h1
    have h2 := gC i h0 h1
    have h3 := h01 i h0 h1
    show 0 ≤ F (i * 5 + 1) ∧ F (i * 5 + 1) ≤ s.2.1 (F (i * 5 + 0) + 1) - s.2.1 (F (i * 5 + 0))
    rw [h3.1, h3.2]
    exact h2
  · intro i j h0 h1 h2
    have h2' : j < s.2.2.2.2.1 := h2
    have h3 := gS i j h0 h1 h2
    have h4 := h01 i h0 (by omega)
    have h5 := h01 j (by omega) h2
    show F (i * 5 + 0) < F (j * 5 + 0) ∨ (F (i * 5 + 0) = F (j * 5 + 0) ∧ F (i * 5 + 1) ≤ F (j * 5 + 1))
    rw [h4.1, h4.2, h5.1, h5.2]
    exact h3
abbrev sK (s : zSh) (sg mn : Int) : zSh := (s.1, s.2.1, s.2.2.1, s.2.2.2.1, s.2.2.2.2.1, sg, mn)
theorem okW_key {s : zSh} (h : okW s) {sg mn : Int} (hs : -6 ≤ sg ∧ sg ≤ 6) (hm : mn = 0 ∨ mn = 1) : okW (sK s sg mn) := ⟨⟨h.1.1, h.1.2.1, hs, hm, h.1.2.2.2.2⟩, h.2⟩
theorem outF_e (F : Int → Int) (i c j : Int) : outF F i c j = if i * 5 ≤ j ∧ j < (c - 1) * 5 then F (j + 5) else F j := by
  unfold outF zcpy
  by_cases h : i * 5 ≤ j ∧ j < (c - 1) * 5
  · rw [if_pos h, if_pos (by omega), show (i + 1) * 5 + (j - i * 5) = j + 5 by omega]
  · rw [if_neg h, if_neg (by omega)]
abbrev sO (s : zSh) (i : Int) : zSh := (s.1, s.2.1, outF s.2.2.1 i s.2.2.2.2.1, s.2.2.2.1, s.2.2.2.2.1 - 1, s.2.2.2.2.2.1, s.2.2.2.2.2.2)
theorem outF_at (F : Int → Int) {i c j f : Int} (hj : 0 ≤ j ∧ j < c - 1) (hf : 0 ≤ f ∧ f < 5) : outF F i c (j * 5 + f) = F ((if j < i then j else j + 1) * 5 + f) := by
  rw [outF_e]
  by_cases h : j < i
  · rw [if_pos h, if_neg (by omega)]
  · rw [if_neg h, if_pos (by omega), show j * 5 + f + 5 = (j + 1) * 5 + f by omega]
theorem okW_out {s : zSh} (h : okW s) {i : Int} (hi : 0 ≤ i ∧ i < s.2.2.2.2.1) : okW (sO s i) := by
  obtain ⟨⟨hD, hn, hg, hm, hl⟩, g0, gT, gC, gS⟩ := h
  have hc := hD.2.2.2.1
  have hk : ∀ j : Int, 0 ≤ j → j < s.2.2.2.2.1 - 1 → 0 ≤ (if j < i then j else j + 1) ∧ (if j < i then j else j + 1) < s.2.2.2.2.1 := by
    intro j j0 j1
    split <;> omega
  refine ⟨⟨⟨hD.1, hD.2.1, hD.2.2.1, ⟨by show 0 ≤ s.2.2.2.2.1 - 1; omega, by show s.2.2.2.2.1 - 1 ≤ 40; omega⟩, outF_b hD.2.2.2.2.1 hi hc.2, hD.2.2.2.2.2⟩, ?_, hg, hm, ?_⟩, g0, gT, ?_, ?_⟩
  · intro j j0 j1
    have j1 : j < s.2.2.2.2.1 - 1 := j1
    have h2 := hn _ (hk j j0 j1).1 (hk j j0 j1).2
    show (-9 ≤ outF s.2.2.1 i s.2.2.2.2.1 (j * 5 + 2) ∧ outF s.2.2.1 i s.2.2.2.2.1 (j * 5 + 2) ≤ 14) ∧ (0 ≤ outF s.2.2.1 i s.2.2.2.2.1 (j * 5 + 3) ∧ outF s.2.2.1 i s.2.2.2.2.1 (j * 5 + 3) < 10) ∧ (outF s.2.2.1 i s.2.2.2.2.1 (j * 5 + 4) = 100 ∨ (-9 ≤ outF s.2.2.1 i s.2.2.2.2.1 (j * 5 + 4) ∧ outF s.2.2.1 i s.2.2.2.2.1 (j * 5 + 4) ≤ 14))
    rw [outF_at _ ⟨j0, j1⟩ (by omega), outF_at _ ⟨j0, j1⟩ (by omega), outF_at _ ⟨j0, j1⟩ (by omega)]
    exact h2
  · intro j j0 j1
    have j1 : j < s.2.2.2.2.1 - 1 := j1
    have h2 := hl _ (hk j j0 j1).1 (hk j j0 j1).2
    show 0 ≤ outF s.2.2.1 i s.2.2.2.2.1 (j * 5 + 0) ∧ outF s.2.2.1 i s.2.2.2.2.1 (j * 5 + 0) < _
    rw [outF_at _ ⟨j0, j1⟩ (by omega)]
    exact h2
  · intro j j0 j1
    have j1 : j < s.2.2.2.2.1 - 1 := j1
    have h2 := gC _ (hk j j0 j1).1 (hk j j0 j1).2
    show 0 ≤ outF s.2.2.1 i s.2.2.2.2.1 (j * 5 + 1) ∧ outF s.2.2.1 i s.2.2.2.2.1 (j * 5 + 1) ≤ s.2.1 (outF s.2.2.1 i s.2.2.2.2.1 (j * 5 + 0) + 1) - s.2.1 (outF s.2.2.1 i s.2.2.2.2.1 (j * 5 + 0))
    rw [outF_at _ ⟨j0, j1⟩ (by omega), outF_at _ ⟨j0, j1⟩ (by omega)]
    exact h2
  · intro a b a0 ab b1
    have b1 : b < s.2.2.2.2.1 - 1 := b1
    have h2 := gS (if a < i then a else a + 1) (if b < i then b else b + 1) (hk a a0 (by omega)).1 (by split <;> split <;> omega) (hk b (by omega) b1).2
    show outF s.2.2.1 i s.2.2.2.2.1 (a * 5 + 0) < outF s.2.2.1 i s.2.2.2.2.1 (b * 5 + 0) ∨ (outF s.2.2.1 i s.2.2.2.2.1 (a * 5 + 0) = outF s.2.2.1 i s.2.2.2.2.1 (b * 5 + 0) ∧ outF s.2.2.1 i s.2.2.2.2.1 (a * 5 + 1) ≤ outF s.2.2.1 i s.2.2.2.2.1 (b * 5 + 1))
    rw [outF_at _ ⟨a0, by omega⟩ (by omega), outF_at _ ⟨by omega, b1⟩ (by omega), outF_at _ ⟨a0, by omega⟩ (by omega), outF_at _ ⟨by omega, b1⟩ (by omega)]
    exact h2
theorem insF_e (F : Int → Int) (i c l k r q b j : Int) : insF F i c l k r q b j = if j = i * 5 + 4 then b else if j = i * 5 + 3 then q else if j = i * 5 + 2 then r else if j = i * 5 + 1 then k else if j = i * 5 + 0 then l else if (i + 1) * 5 ≤ j ∧ j < (c + 1) * 5 then F (j - 5) else F j := by
  unfold insF putF zcpy
  show (if j = i * 5 + 4 then b else if j = i * 5 + 3 then q else if j = i * 5 + 2 then r else if j = i * 5 + 1 then k else if j = i * 5 + 0 then l else if _ then F (i * 5 + (j - (i + 1) * 5)) else F j) = _
  by_cases h : (i + 1) * 5 ≤ j ∧ j < (c + 1) * 5
  · rw [if_pos h, if_pos (show (i + 1) * 5 ≤ j ∧ j < (i + 1) * 5 + (c - i) * 5 by omega), show i * 5 + (j - (i + 1) * 5) = j - 5 by omega]
  · rw [if_neg h, if_neg (show ¬ ((i + 1) * 5 ≤ j ∧ j < (i + 1) * 5 + (c - i) * 5) by omega)]
abbrev sI (s : zSh) (i l k r q b : Int) : zSh := (s.1, s.2.1, insF s.2.2.1 i s.2.2.2.2.1 l k r q b, s.2.2.2.1, s.2.2.2.2.1 + 1, s.2.2.2.2.2.1, s.2.2.2.2.2.2)
theorem cUT_up (F : Int → Int) (l k : Int) : ∀ (n : Nat) (i j : Int), i ≤ j → j < cUT F l k n i → (F (j * 5 + 0) < l ∨ (F (j * 5 + 0) = l ∧ F (j * 5 + 1) ≤ k))
  | 0, i, j, h1, h2 => by rw [cUT] at h2; omega
  | n + 1, i, j, h1, h2 => by
    rw [cUT] at h2
    split at h2
    · rename_i h3
      by_cases h4 : j = i
      · rw [h4]; exact h3
      · exact cUT_up F l k n (i + 1) j (by omega) h2
    · omega
theorem cUT_no (F : Int → Int) (l k : Int) : ∀ (n : Nat) (i : Int), cUT F l k n i < i + n → ¬ (F (cUT F l k n i * 5 + 0) < l ∨ (F (cUT F l k n i * 5 + 0) = l ∧ F (cUT F l k n i * 5 + 1) ≤ k))
  | 0, i, h => by rw [cUT] at h; omega
  | n + 1, i, h => by
    rw [cUT] at h ⊢
    split
    · rename_i h3
      rw [if_pos h3] at h
      exact cUT_no F l k n (i + 1) (by omega)
    · rename_i h3
      exact h3
theorem insF_at (F : Int → Int) {i c j l k r q b : Int} (hj : 0 ≤ j ∧ j ≤ c) (h : ¬ j = i) {f : Int} (hf : 0 ≤ f ∧ f < 5) : insF F i c l k r q b (j * 5 + f) = F ((if j < i then j else j - 1) * 5 + f) := by
  rw [insF_e, if_neg (by omega), if_neg (by omega), if_neg (by omega), if_neg (by omega), if_neg (by omega)]
  by_cases h2 : j < i
  · rw [if_pos h2, if_neg (by omega)]
  · rw [if_neg h2, if_pos (by omega), show j * 5 + f - 5 = (j - 1) * 5 + f by omega]
theorem insF_0 (F : Int → Int) (i c l k r q b : Int) : insF F i c l k r q b (i * 5 + 0) = l := by
  rw [insF_e, if_neg (by omega), if_neg (by omega), if_neg (by omega), if_neg (by omega), if_pos rfl]
theorem insF_1 (F : Int → Int) (i c l k r q b : Int) : insF F i c l k r q b (i * 5 + 1) = k := by
  rw [insF_e, if_neg (by omega), if_neg (by omega), if_neg (by omega), if_pos rfl]
theorem insF_2 (F : Int → Int) (i c l k r q b : Int) : insF F i c l k r q b (i * 5 + 2) = r := by
  rw [insF_e, if_neg (by omega), if_neg (by omega), if_pos rfl]
theorem insF_3 (F : Int → Int) (i c l k r q b : Int) : insF F i c l k r q b (i * 5 + 3) = q := by
  rw [insF_e, if_neg (by omega), if_pos rfl]
theorem insF_4 (F : Int → Int) (i c l k r q b : Int) : insF F i c l k r q b (i * 5 + 4) = b := by
  rw [insF_e, if_pos rfl]
theorem okW_ins {s : zSh} (h : okW s) {l k r q b : Int} (hc : s.2.2.2.2.1 < 40) (hl9 : 0 ≤ l ∧ l < s.2.2.2.1) (hk9 : 0 ≤ k ∧ k ≤ s.2.1 (l + 1) - s.2.1 l) (hr : -9 ≤ r ∧ r ≤ 14) (hq : 0 ≤ q ∧ q < 10) (hb : b = 100 ∨ (-9 ≤ b ∧ b ≤ 14)) : okW (sI s (cUT s.2.2.1 l k s.2.2.2.2.1.toNat 0) l k r q b) := by
  obtain ⟨⟨hD, hn, hg, hm, hl⟩, g0, gT, gC, gS⟩ := h
  have c0 := hD.2.2.2.1
  have l0 := hD.1
  have t0 := hD.2.2.1 l (by omega) (by omega)
  have t1 := hD.2.2.1 (l + 1) (by omega) (by omega)
  have hu := cUT_le s.2.2.1 l k s.2.2.2.2.1.toNat 0
  have hup := cUT_up s.2.2.1 l k s.2.2.2.2.1.toNat 0
  have hno := cUT_no s.2.2.1 l k s.2.2.2.2.1.toNat 0
  generalize cUT s.2.2.1 l k s.2.2.2.2.1.toNat 0 = i at hu hup hno ⊢
  have hno2 : ∀ j : Int, i ≤ j → j < s.2.2.2.2.1 → ¬ (s.2.2.1 (j * 5 + 0) < l ∨ (s.2.2.1 (j * 5 + 0) = l ∧ s.2.2.1 (j * 5 + 1) ≤ k)) := by
    intro j j0 j1
    have h1 := hno (by omega)
    by_cases h2 : j = i
    · rw [h2]; exact h1
    · have h3 := gS i j (by omega) (by omega) j1
      omega
  have hix : ∀ j : Int, 0 ≤ j → j < s.2.2.2.2.1 + 1 → ¬ j = i → 0 ≤ (if j < i then j else j - 1) ∧ (if j < i then j else j - 1) < s.2.2.2.2.1 := by
    intro j j0 j1 j2
    split <;> omega
  refine ⟨⟨⟨hD.1, hD.2.1, hD.2.2.1, ⟨by show 0 ≤ s.2.2.2.2.1 + 1; omega, by show s.2.2.2.2.1 + 1 ≤ 40; omega⟩, insF_b hD.2.2.2.2.1 (by omega) hc (by omega) (by omega) (by omega) (by omega) (by omega), hD.2.2.2.2.2⟩, ?_, hg, hm, ?_⟩, g0, gT, ?_, ?_⟩
  · intro j j0 j1
    have j1 : j < s.2.2.2.2.1 + 1 := j1
    show (-9 ≤ insF s.2.2.1 i s.2.2.2.2.1 l k r q b (j * 5 + 2) ∧ insF s.2.2.1 i s.2.2.2.2.1 l k r q b (j * 5 + 2) ≤ 14) ∧ (0 ≤ insF s.2.2.1 i s.2.2.2.2.1 l k r q b (j * 5 + 3) ∧ insF s.2.2.1 i s.2.2.2.2.1 l k r q b (j * 5 + 3) < 10) ∧ (insF s.2.2.1 i s.2.2.2.2.1 l k r q b (j * 5 + 4) = 100 ∨ (-9 ≤ insF s.2.2.1 i s.2.2.2.2.1 l k r q b (j * 5 + 4) ∧ insF s.2.2.1 i s.2.2.2.2.1 l k r q b (j * 5 + 4) ≤ 14))
    by_cases j2 : j = i
    · rw [j2, insF_2, insF_3, insF_4]
      exact ⟨hr, hq, hb⟩
    · rw [insF_at _ ⟨j0, by omega⟩ j2 (by omega), insF_at _ ⟨j0, by omega⟩ j2 (by omega), insF_at _ ⟨j0, by omega⟩ j2 (by omega)]
      exact hn _ (hix j j0 j1 j2).1 (hix j j0 j1 j2).2
  · intro j j0 j1
    have j1 : j < s.2.2.2.2.1 + 1 := j1
    show 0 ≤ insF s.2.2.1 i s.2.2.2.2.1 l k r q b (j * 5 + 0) ∧ insF s.2.2.1 i s.2.2.2.2.1 l k r q b (j * 5 + 0) < _
    by_cases j2 : j = i
    · rw [j2, insF_0]; exact hl9
    · rw [insF_at _ ⟨j0, by omega⟩ j2 (by omega)]
      exact hl _ (hix j j0 j1 j2).1 (hix j j0 j1 j2).2
  · intro j j0 j1
    have j1 : j < s.2.2.2.2.1 + 1 := j1
    show 0 ≤ insF s.2.2.1 i s.2.2.2.2.1 l k r q b (j * 5 + 1) ∧ insF s.2.2.1 i s.2.2.2.2.1 l k r q b (j * 5 + 1) ≤ s.2.1 (insF s.2.2.1 i s.2.2.2.2.1 l k r q b (j * 5 + 0) + 1) - s.2.1 (insF s.2.2.1 i s.2.2.2.2.1 l k r q b (j * 5 + 0))
    by_cases j2 : j = i
    · rw [j2, insF_0, insF_1]; exact hk9
    · rw [insF_at _ ⟨j0, by omega⟩ j2 (by omega), insF_at _ ⟨j0, by omega⟩ j2 (by omega)]
      exact gC _ (hix j j0 j1 j2).1 (hix j j0 j1 j2).2
  · intro x y x0 xy y1
    have y1 : y < s.2.2.2.2.1 + 1 := y1
    show insF s.2.2.1 i s.2.2.2.2.1 l k r q b (x * 5 + 0) < insF s.2.2.1 i s.2.2.2.2.1 l k r q b (y * 5 + 0) ∨ (insF s.2.2.1 i s.2.2.2.2.1 l k r q b (x * 5 + 0) = insF s.2.2.1 i s.2.2.2.2.1 l k r q b (y * 5 + 0) ∧ insF s.2.2.1 i s.2.2.2.2.1 l k r q b (x * 5 + 1) ≤ insF s.2.2.1 i s.2.2.2.2.1 l k r q b (y * 5 + 1))
    by_cases x2 : x = i
    · rw [x2, insF_0, insF_1, insF_at _ ⟨by omega, by omega⟩ (show ¬ y = i by omega) (by omega), insF_at _ ⟨by omega, by omega⟩ (show ¬ y = i by omega) (by omega), if_neg (show ¬ y < i by omega)]
      have := hno2 (y - 1) (by omega) (by omega)
      omega
    · by_cases y2 : y = i
      · rw [y2, insF_0, insF_1, insF_at _ ⟨by omega, by omega⟩ x2 (by omega), insF_at _ ⟨by omega, by omega⟩ x2 (by omega), if_pos (show x < i by omega)]
        exact hup x (by omega) (by omega)
      · rw [insF_at _ ⟨by omega, by omega⟩ x2 (by omega), insF_at _ ⟨by omega, by omega⟩ x2 (by omega), insF_at _ ⟨by omega, by omega⟩ y2 (by omega), insF_at _ ⟨by omega, by omega⟩ y2 (by omega)]
        exact gS _ _ (hix x x0 (by omega) x2).1 (by split <;> split <;> omega) (hix y (by omega) y1 y2).2
/-- the same letters as far as they go -/
def Req (r r' : zRw) : Prop := r.1 = r'.1 ∧ ∀ j : Int, 0 ≤ j → j < r.1 → r.2 j = r'.2 j
theorem Req_rA {r r' : zRw} (h : Req r r') (c : Int) : Req (rA r c) (rA r' c) := by
  refine ⟨congrArg (· + 1) h.1, ?_⟩
  intro j j0 j1
  have j1 : j < r.1 + 1 := j1
  show zup r.2 r.1 c j = zup r'.2 r'.1 c j
  rw [← h.1]
  by_cases hj : j = r.1
  · rw [hj, zup9_eq, zup9_eq]
  · rw [zup9_ne hj, zup9_ne hj]
    exact h.2 j j0 (by omega)
theorem Req_rL {r r' : zRw} (h : Req r r') : ∀ l : List Int, Req (rL r l) (rL r' l)
  | [] => h
  | c :: l => by
    show Req (rL (rA r c) l) (rL (rA r' c) l)
    exact Req_rL (Req_rA h c) l
theorem Req_refl (r : zRw) : Req r r := ⟨rfl, fun _ _ _ => rfl⟩
theorem Req_symm {r r' : zRw} (h : Req r r') : Req r' r := ⟨h.1.symm, fun j j0 j1 => (h.2 j j0 (by have := h.1; omega)).symm⟩
theorem Req_trans {r r' r'' : zRw} (h : Req r r') (h2 : Req r' r'') : Req r r'' := ⟨h.1.trans h2.1, fun j j0 j1 => (h.2 j j0 j1).trans (h2.2 j j0 (by have := h.1; omega))⟩
theorem isLt_1 {s : zSh} (hL : ∀ j : Int, 0 ≤ j → j < 200 → 0 ≤ s.1 j ∧ s.1 j < 65536) {l : Int} (h1 : 0 ≤ s.2.1 l) (h2 : s.2.1 (l + 1) ≤ 200) (j : Int) : isLt s l j = 1 ↔ (0 ≤ j ∧ j < s.2.1 (l + 1) - s.2.1 l) ∧ ¬ ltr s.1 s.2.1 l j = 32 := by
  unfold isLt ltr
  by_cases h : 0 ≤ j ∧ s.2.1 l + j < s.2.1 (l + 1)
  · rw [if_pos h]
    have := hL (s.2.1 l + j) (by omega) (by omega)
    split <;> omega
  · rw [if_neg h, if_pos (Or.inl rfl)]
    omega
/-- the chord at hand is the first that doesn't stand before the place -/
def ptr (s : zSh) (l k c : Int) : Prop := (∀ j : Int, 0 ≤ j → j < c → (s.2.2.1 (j * 5 + 0) < l ∨ (s.2.2.1 (j * 5 + 0) = l ∧ s.2.2.1 (j * 5 + 1) < k))) ∧ (∀ j : Int, c ≤ j → j < s.2.2.2.2.1 → ¬ (s.2.2.1 (j * 5 + 0) < l ∨ (s.2.2.1 (j * 5 + 0) = l ∧ s.2.2.1 (j * 5 + 1) < k)))
theorem plC_ptr {s : zSh} (hs : okW s) (f l k : Int) : ∀ (m : Nat) (y : zLy), y.2.2.1 = l → 0 ≤ y.2.2.2.2.2.1 → s.2.2.2.2.1 - y.2.2.2.2.2.1 ≤ m → (∀ j : Int, 0 ≤ j → j < y.2.2.2.2.2.1 → (s.2.2.1 (j * 5 + 0) < l ∨ (s.2.2.1 (j * 5 + 0) = l ∧ s.2.2.1 (j * 5 + 1) < k + 1))) → (∀ j : Int, y.2.2.2.2.2.1 ≤ j → j < s.2.2.2.2.1 → ¬ (s.2.2.1 (j * 5 + 0) < l ∨ (s.2.2.1 (j * 5 + 0) = l ∧ s.2.2.1 (j * 5 + 1) < k))) → ptr s l (k + 1) (plC s k f m y).2.2.2.2.2.1
  | 0, y, hln, h0, hm, h1, h2 => ⟨h1, fun j j0 j1 => by have : (plC s k f 0 y).2.2.2.2.2.1 = y.2.2.2.2.2.1 := rfl; omega⟩
  | m + 1, y, hln, h0, hm, h1, h2 => by
    rw [plC]
    by_cases hc : y.2.2.2.2.2.1 < s.2.2.2.2.1 ∧ s.2.2.1 (y.2.2.2.2.2.1 * 5 + 0) = y.2.2.1 ∧ s.2.2.1 (y.2.2.2.2.2.1 * 5 + 1) = k
    · rw [if_pos hc]
      refine plC_ptr hs f l k m (plO s f y) hln (by show 0 ≤ y.2.2.2.2.2.1 + 1; omega) (by show s.2.2.2.2.1 - (y.2.2.2.2.2.1 + 1) ≤ m; omega) ?_ ?_
      · intro j j0 j1
        have j1 : j < y.2.2.2.2.2.1 + 1 := j1
        by_cases hj : j = y.2.2.2.2.2.1
        · rw [hj]; omega
        · exact h1 j j0 (by omega)
      · intro j j0 j1
        have j0 : y.2.2.2.2.2.1 + 1 ≤ j := j0
        exact h2 j (by omega) j1
    · rw [if_neg hc]
      refine ⟨h1, ?_⟩
      intro j j0 j1
      have h3 := h2 j j0 j1
      by_cases hj : j = y.2.2.2.2.2.1
      · rw [hj] at h3 j1 ⊢
        omega
      · have h4 := h2 y.2.2.2.2.2.1 (by omega) (by omega)
        have h5 := hs.2.2.2.2 y.2.2.2.2.2.1 j h0 (by omega) j1
        omega
theorem layS_ptr {s : zSh} (hs : okW s) {l k : Int} {y : zLy} (hln : y.2.2.1 = l) (h0 : 0 ≤ y.2.2.2.2.2.1) (h : ptr s l k y.2.2.2.2.2.1) : ptr s l (k + 1) (layS s y k).2.2.2.2.2.1 :=
  plC_ptr hs _ l k _ y hln h0 (by omega) (fun j j0 j1 => by have := h.1 j j0 j1; omega) h.2
def layI (s : zSh) : Nat → Int → zLy → zLy
  | 0, _, y => y
  | m + 1, k, y => layI s m (k + 1) (layS s y k)
/-- a part of a line, to its end with the chords there -/
def layE (s : zSh) (l a b : Int) (y : zLy) : zLy := if b = s.2.1 (l + 1) - s.2.1 l then plc s (layI s (b - a).toNat a y) b else layI s (b - a).toNat a y
theorem layS_ln (s : zSh) (y : zLy) (k : Int) : (layS s y k).2.2.1 = y.2.2.1 := plC_ln s k _ _ y
/-- where a line begins to be laid -/
def yB (s : zSh) (l a : Int) : zLy := (zr0, zr0, l, 0, 0, cUT s.2.2.1 l (a - 1) s.2.2.2.2.1.toNat 0, -1, 0, 0, 0)
theorem yB_ptr {s : zSh} (hs : okW s) (l a : Int) : ptr s l a (yB s l a).2.2.2.2.2.1 := by
  have hc := hs.1.1.2.2.2.1
  have hu := cUT_le s.2.2.1 l (a - 1) s.2.2.2.2.1.toNat 0
  have hup := cUT_up s.2.2.1 l (a - 1) s.2.2.2.2.1.toNat 0
  have hno := cUT_no s.2.2.1 l (a - 1) s.2.2.2.2.1.toNat 0
  show ptr s l a (cUT s.2.2.1 l (a - 1) s.2.2.2.2.1.toNat 0)
  generalize cUT s.2.2.1 l (a - 1) s.2.2.2.2.1.toNat 0 = i at hu hup hno ⊢
  refine ⟨fun j j0 j1 => by have := hup j j0 j1; omega, ?_⟩
  intro j j0 j1
  have h1 := hno (by omega)
  by_cases h2 : j = i
  · rw [h2]; omega
  · have h3 := hs.2.2.2.2 i j (by omega) (by omega) j1
    omega
theorem yB_ok {s : zSh} (hs : okW s) {l a : Int} (hl : 0 ≤ l ∧ l < s.2.2.2.1) (ha : 0 ≤ a) : okY s a (yB s l a) := by
  have hc := hs.1.1.2.2.2.1
  have hlc := hs.1.1.1
  have hu := cUT_le s.2.2.1 l (a - 1) s.2.2.2.2.1.toNat 0
  refine ⟨⟨Int.le_refl 0, ?_⟩, ⟨Int.le_refl 0, ?_⟩, ⟨?_, ?_⟩, ⟨Int.le_refl 0, show (0 : Int) ≤ 680 by omega⟩, ⟨Int.le_refl 0, show (0 : Int) ≤ 680 by omega⟩, ⟨show (-1 : Int) ≤ -1 by omega, show (-1 : Int) ≤ 200 by omega⟩, ⟨Int.le_refl 0, show (0 : Int) ≤ 200 by omega⟩, ⟨Int.le_refl 0, ?_⟩, ⟨hl.1, ?_⟩, ⟨show (-2147483648 : Int) ≤ 0 by omega, show (0 : Int) ≤ 2147483647 by omega⟩⟩
  · show (0 : Int) ≤ a + 12 * cUT _ _ _ _ _; omega
  · show (0 : Int) ≤ a + 12 * cUT _ _ _ _ _; omega
  · show 0 ≤ cUT _ _ _ _ _; omega
  · show cUT _ _ _ _ _ ≤ _; omega
  · show (0 : Int) ≤ s.2.2.2.2.1; omega
  · show l ≤ 200; omega
/-- a break -/
abbrev brk (s : zSh) (l k : Int) : Prop := k = 0 ∨ k = s.2.1 (l + 1) - s.2.1 l ∨ (¬ ltr s.1 s.2.1 l k = 32 ∧ ltr s.1 s.2.1 l (k - 1) = 32)
/-- the part fits -/
abbrev fit (s : zSh) (l w a k : Int) : Prop := (layE s l a k (yB s l a)).1.1 ≤ w ∧ (layE s l a k (yB s l a)).2.1.1 ≤ w
/-- where a pair ends, as it is sought from the end -/
def edR (s : zSh) (l w a : Int) : Nat → Int → Int → Int → Int
  | 0, _, nx, be => if be < 0 then nx else be
  | m + 1, k, nx, be => if brk s l k then edR s l w a m (k - 1) k (if be < 0 ∧ fit s l w a k then k else be) else edR s l w a m (k - 1) nx be
def edF (s : zSh) (l w a : Int) : Int := edR s l w a (s.2.1 (l + 1) - s.2.1 l - a).toNat (s.2.1 (l + 1) - s.2.1 l) (s.2.1 (l + 1) - s.2.1 l) (-1)
theorem edR_b (s : zSh) (l w a n : Int) : ∀ (m : Nat) (k nx be : Int), k = a + m → k ≤ n → (a < nx ∨ nx = n) → nx ≤ n → (be = -1 ∨ (a < be ∧ be ≤ n)) → -1 < a → a ≤ n → (a < edR s l w a m k nx be ∨ edR s l w a m k nx be = n) ∧ edR s l w a m k nx be ≤ n
  | 0, k, nx, be, hk, hkn, h1, h2, h3, ha, han => by
    rw [edR]
    split <;> omega
  | m + 1, k, nx, be, hk, hkn, h1, h2, h3, ha, han => by
    rw [edR]
    by_cases h9 : brk s l k
    · rw [if_pos h9]
      exact edR_b s l w a n m (k - 1) k _ (by omega) (by omega) (by omega) (by omega) (by split <;> omega) ha han
    · rw [if_neg h9]
      exact edR_b s l w a n m (k - 1) nx be (by omega) (by omega) h1 h2 h3 ha han
theorem edF_b {s : zSh} {l w a : Int} (h : 0 ≤ a ∧ a ≤ s.2.1 (l + 1) - s.2.1 l) : (a < edF s l w a ∨ edF s l w a = s.2.1 (l + 1) - s.2.1 l) ∧ edF s l w a ≤ s.2.1 (l + 1) - s.2.1 l :=
  edR_b s l w a _ _ _ _ _ (by omega) (by omega) (by omega) (by omega) (Or.inl rfl) (by omega) h.2
theorem layI_ok {s : zSh} (hs : okN s) : ∀ (m : Nat) (k : Int) (y : zLy), okY s k y → okY s (k + m) (layI s m k y)
  | 0, k, y, h => by
    rw [show k + ((0 : Nat) : Int) = k by omega]
    exact h
  | m + 1, k, y, h => by
    rw [show k + ((m + 1 : Nat) : Int) = k + 1 + (m : Nat) by omega]
    exact layI_ok hs m (k + 1) _ (layS_ok hs h)
theorem layE_ok {s : zSh} {l a b : Int} {y : zLy} (hs : okN s) (h : a ≤ b) (hy : okY s a y) : okY s b (layE s l a b y) := by
  have h1 := layI_ok hs (b - a).toNat a y hy
  rw [show a + (((b - a).toNat : Nat) : Int) = b by omega] at h1
  unfold layE
  split
  · exact plc_ok hs h1
  · exact h1
theorem layE_sz {s : zSh} {l a b : Int} {y : zLy} (hs : okN s) (hc : s.2.2.2.2.1 ≤ 40) (h : a ≤ b) (hb : b ≤ 200) (hy : okY s a y) : (0 ≤ (layE s l a b y).1.1 ∧ (layE s l a b y).1.1 ≤ 680) ∧ (0 ≤ (layE s l a b y).2.1.1 ∧ (layE s l a b y).2.1.1 ≤ 680) := by
  have h1 := layE_ok (l := l) hs h hy
  have h2 := h1.2.2.1
  exact ⟨⟨h1.1.1, by have := h1.1.2; omega⟩, ⟨h1.2.1.1, by have := h1.2.1.2; omega⟩⟩
def prR (s : zSh) (l w : Int) : Nat → Int → Int → Int
  | 0, _, n => n
  | m + 1, k, n => if k < s.2.1 (l + 1) - s.2.1 l then prR s l w m (edF s l w k) (n + 1) else n
def prF (s : zSh) (l w : Int) : Int := prR s l w 201 0 (if s.2.1 (l + 1) - s.2.1 l = 0 then 1 else 0)
theorem prR_b (s : zSh) (l w : Int) : ∀ (m : Nat) (k n : Int), n ≤ prR s l w m k n ∧ prR s l w m k n ≤ n + m
  | 0, k, n => by simp [prR]
  | m + 1, k, n => by
    rw [prR]
    have := prR_b s l w m (edF s l w k) (n + 1)
    split <;> omega
def itR (s : zSh) (l w : Int) : Nat → Int → Int
  | 0, a => a
  | m + 1, a => itR s l w m (edF s l w a)
theorem itR_b {s : zSh} {l w : Int} : ∀ (m : Nat) (a : Int), 0 ≤ a ∧ a ≤ s.2.1 (l + 1) - s.2.1 l → 0 ≤ itR s l w m a ∧ itR s l w m a ≤ s.2.1 (l + 1) - s.2.1 l
  | 0, a, h => h
  | m + 1, a, h => by
    have h1 := edF_b (w := w) h
    exact itR_b m _ (by omega)
theorem cUT_all (F : Int → Int) (l k : Int) : ∀ (n : Nat) (i : Int), (∀ j : Int, i ≤ j → j < i + n → (F (j * 5 + 0) < l ∨ (F (j * 5 + 0) = l ∧ F (j * 5 + 1) ≤ k))) → cUT F l k n i = i + n
  | 0, i, h => by rw [cUT]; omega
  | n + 1, i, h => by
    rw [cUT, if_pos (h i (by omega) (by omega)), cUT_all F l k n (i + 1) (fun j j0 j1 => h j (by omega) (by omega))]
    omega
/-- all chords so far come before the end -/
theorem cUT_end {s : zSh} (hw : okW (sK s 0 0)) : cUT s.2.2.1 (s.2.2.2.1 - 1) (s.2.1 (s.2.2.2.1 - 1 + 1) - s.2.1 (s.2.2.2.1 - 1)) s.2.2.2.2.1.toNat 0 = s.2.2.2.2.1 := by
  have hc := hw.1.1.2.2.2.1
  have hc : 0 ≤ s.2.2.2.2.1 ∧ s.2.2.2.2.1 ≤ 40 := hc
  rw [cUT_all]
  · omega
  · intro j j0 j1
    have h1 := hw.1.2.2.2.2 j j0 (by show j < s.2.2.2.2.1; omega)
    have h2 := hw.2.2.2.1 j j0 (by show j < s.2.2.2.2.1; omega)
    have h1 : 0 ≤ s.2.2.1 (j * 5 + 0) ∧ s.2.2.1 (j * 5 + 0) < s.2.2.2.1 := h1
    have h2 : 0 ≤ s.2.2.1 (j * 5 + 1) ∧ s.2.2.1 (j * 5 + 1) ≤ s.2.1 (s.2.2.1 (j * 5 + 0) + 1) - s.2.1 (s.2.2.1 (j * 5 + 0)) := h2
    by_cases h3 : s.2.2.1 (j * 5 + 0) = s.2.2.2.1 - 1
    · rw [h3] at h2
      exact Or.inr ⟨h3, h2.2⟩
    · exact Or.inl (by omega)
theorem okW_app {s : zSh} (hw : okW (sK s 0 0)) (hcc : s.2.2.2.2.1 < 40) {r q b : Int} (hr : -9 ≤ r ∧ r ≤ 14) (hq : 0 ≤ q ∧ q < 10) (hb : b = 100 ∨ (-9 ≤ b ∧ b ≤ 14)) : okW (sK (shApp s r q b) 0 0) := by
  have hlc : 1 ≤ s.2.2.2.1 ∧ s.2.2.2.1 ≤ 200 + 1 := hw.1.1.1
  have hm := hw.2.2.1 (s.2.2.2.1 - 1) (by omega) (by show s.2.2.2.1 - 1 < s.2.2.2.1; omega)
  have hm : s.2.1 (s.2.2.2.1 - 1) ≤ s.2.1 (s.2.2.2.1 - 1 + 1) := hm
  exact okW_ins hw (l := s.2.2.2.1 - 1) (k := s.2.1 (s.2.2.2.1 - 1 + 1) - s.2.1 (s.2.2.2.1 - 1)) hcc (by show 0 ≤ s.2.2.2.1 - 1 ∧ s.2.2.2.1 - 1 < s.2.2.2.1; omega) (by show 0 ≤ s.2.1 (s.2.2.2.1 - 1 + 1) - s.2.1 (s.2.2.2.1 - 1) ∧ s.2.1 (s.2.2.2.1 - 1 + 1) - s.2.1 (s.2.2.2.1 - 1) ≤ s.2.1 (s.2.2.2.1 - 1 + 1) - s.2.1 (s.2.2.2.1 - 1); omega) hr hq hb
theorem okW_add {s : zSh} {i : Int} (hw : okW (sK s 0 0)) (hd : okD i s) (hi : i < 200) (c : Int) (hc : 0 ≤ c ∧ c < 65536) : okW (sK (shAdd s c) 0 0) := by
  obtain ⟨⟨hD, hn, hg, hm, hl⟩, g0, gT, gC, gS⟩ := hw
  have hlc := hd.1
  have hD2 := okD_le (okD_add hd hi c hc) (show i + 1 ≤ 200 by omega)
  have hTz : ∀ k : Int, zup s.2.1 s.2.2.2.1 (s.2.1 s.2.2.2.1 + 1) k = if k = s.2.2.2.1 then s.2.1 s.2.2.2.1 + 1 else s.2.1 k := fun k => rfl
  refine ⟨⟨hD2, hn, hg, hm, hl⟩, ?_, ?_, ?_, gS⟩
  · show zup s.2.1 s.2.2.2.1 (s.2.1 s.2.2.2.1 + 1) 0 = 0
    rw [zup9_ne (by omega)]; exact g0
  · intro k k0 k1
    have k1 : k < s.2.2.2.1 := k1
    have h2 : s.2.1 k ≤ s.2.1 (k + 1) := gT k k0 k1
    show zup s.2.1 s.2.2.2.1 (s.2.1 s.2.2.2.1 + 1) k ≤ zup s.2.1 s.2.2.2.1 (s.2.1 s.2.2.2.1 + 1) (k + 1)
    rw [hTz, hTz, if_neg (by omega)]
    split
    · rename_i h3; rw [← h3]; omega
    · exact h2
  · intro j j0 j1
    have j1 : j < s.2.2.2.2.1 := j1
    have h2 : 0 ≤ s.2.2.1 (j * 5 + 1) ∧ s.2.2.1 (j * 5 + 1) ≤ s.2.1 (s.2.2.1 (j * 5 + 0) + 1) - s.2.1 (s.2.2.1 (j * 5 + 0)) := gC j j0 j1
    have h3 : 0 ≤ s.2.2.1 (j * 5 + 0) ∧ s.2.2.1 (j * 5 + 0) < s.2.2.2.1 := hl j j0 j1
    show 0 ≤ s.2.2.1 (j * 5 + 1) ∧ s.2.2.1 (j * 5 + 1) ≤ zup s.2.1 s.2.2.2.1 (s.2.1 s.2.2.2.1 + 1) (s.2.2.1 (j * 5 + 0) + 1) - zup s.2.1 s.2.2.2.1 (s.2.1 s.2.2.2.1 + 1) (s.2.2.1 (j * 5 + 0))
    rw [hTz, hTz, if_neg (show ¬ s.2.2.1 (j * 5 + 0) = s.2.2.2.1 by omega)]
    split
    · rename_i h4; rw [← h4]; omega
    · exact h2
theorem okW_line {s : zSh} {i : Int} (hw : okW (sK s 0 0)) (hd : okD i s) (hi : i < 200) : okW (sK (shLine s) 0 0) := by
  obtain ⟨⟨hD, hn, hg, hm, hl⟩, g0, gT, gC, gS⟩ := hw
  have hlc := hd.1
  have hD2 := okD_le (okD_line hd hi) (show i + 1 ≤ 200 by omega)
  have hTz : ∀ k : Int, zup s.2.1 (s.2.2.2.1 + 1) (s.2.1 s.2.2.2.1) k = if k = s.2.2.2.1 + 1 then s.2.1 s.2.2.2.1 else s.2.1 k := fun k => rfl
  refine ⟨⟨hD2, hn, hg, hm, ?_⟩, ?_, ?_, ?_, gS⟩
  · intro j j0 j1
    have h3 : 0 ≤ s.2.2.1 (j * 5 + 0) ∧ s.2.2.1 (j * 5 + 0) < s.2.2.2.1 := hl j j0 j1
    show 0 ≤ s.2.2.1 (j * 5 + 0) ∧ s.2.2.1 (j * 5 + 0) < s.2.2.2.1 + 1
    omega
  · show zup s.2.1 (s.2.2.2.1 + 1) (s.2.1 s.2.2.2.1) 0 = 0
    rw [zup9_ne (by omega)]; exact g0
  · intro k k0 k1
    have k1 : k < s.2.2.2.1 + 1 := k1
    show zup s.2.1 (s.2.2.2.1 + 1) (s.2.1 s.2.2.2.1) k ≤ zup s.2.1 (s.2.2.2.1 + 1) (s.2.1 s.2.2.2.1) (k + 1)
    rw [hTz, hTz, if_neg (by omega)]
    split
    · rename_i h3
      rw [show k = s.2.2.2.1 by omega]
      exact Int.le_refl _
    · exact gT k k0 (by show k < s.2.2.2.1; omega)
  · intro j j0 j1
    have j1 : j < s.2.2.2.2.1 := j1
    have h2 : 0 ≤ s.2.2.1 (j * 5 + 1) ∧ s.2.2.1 (j * 5 + 1) ≤ s.2.1 (s.2.2.1 (j * 5 + 0) + 1) - s.2.1 (s.2.2.1 (j * 5 + 0)) := gC j j0 j1
    have h3 : 0 ≤ s.2.2.1 (j * 5 + 0) ∧ s.2.2.1 (j * 5 + 0) < s.2.2.2.1 := hl j j0 j1
    show 0 ≤ s.2.2.1 (j * 5 + 1) ∧ s.2.2.1 (j * 5 + 1) ≤ zup s.2.1 (s.2.2.2.1 + 1) (s.2.1 s.2.2.2.1) (s.2.2.1 (j * 5 + 0) + 1) - zup s.2.1 (s.2.2.2.1 + 1) (s.2.1 s.2.2.2.1) (s.2.2.1 (j * 5 + 0))
    rw [hTz, hTz, if_neg (by omega), if_neg (by omega)]
    exact h2
theorem chR_n (g : Int → Int) (fr qu : Int) (h : 0 ≤ qu ∧ qu < 10) (hw : (chR g fr qu).2.2.2.2 = 1) : (-8 ≤ (chR g fr qu).2.1 ∧ (chR g fr qu).2.1 ≤ 12) ∧ ((chR g fr qu).2.2.2.1 = 100 ∨ (-8 ≤ (chR g fr qu).2.2.2.1 ∧ (chR g fr qu).2.2.2.1 ≤ 12)) := by
  have h1 := ntR_b g fr
  have h3 := ntR_b g ((ntR g fr).2 + (quF g (ntR g fr).2 qu).1 + 1)
  unfold chR at hw ⊢
  by_cases c1 : (ntR g fr).1 = 100
  · rw [if_pos c1] at hw; exact absurd hw (show ¬ (0 : Int) = 1 by decide)
  rw [if_neg c1] at hw ⊢
  by_cases c2 : (quF g (ntR g fr).2 qu).2.1 = 0
  · rw [if_pos c2] at hw; exact absurd hw (show ¬ (0 : Int) = 1 by decide)
  rw [if_neg c2] at hw ⊢
  by_cases c3 : g ((ntR g fr).2 + (quF g (ntR g fr).2 qu).1) = 47
  · rw [if_pos c3] at hw ⊢
    exact ⟨⟨show -8 ≤ (ntR g fr).1 from h1.1, show (ntR g fr).1 ≤ 12 by omega⟩, show (ntR g ((ntR g fr).2 + (quF g (ntR g fr).2 qu).1 + 1)).1 = 100 ∨ (-8 ≤ (ntR g ((ntR g fr).2 + (quF g (ntR g fr).2 qu).1 + 1)).1 ∧ (ntR g ((ntR g fr).2 + (quF g (ntR g fr).2 qu).1 + 1)).1 ≤ 12) by omega⟩
  · rw [if_neg c3]
    exact ⟨⟨show -8 ≤ (ntR g fr).1 from h1.1, show (ntR g fr).1 ≤ 12 by omega⟩, Or.inl rfl⟩
theorem okW_clr {s : zSh} (hd : okD 200 s) : okW (sK (shClr s) 0 0) := by
  have h1 := okD_le (okD_clr hd) (show (0 : Int) ≤ 200 by decide)
  have hT : ∀ k : Int, (shClr s).2.1 k = if k = 1 then 0 else if k = 0 then 0 else s.2.1 k := fun k => rfl
  refine ⟨⟨h1, ?_, ⟨by show (-6 : Int) ≤ 0; omega, by show (0 : Int) ≤ 6; omega⟩, Or.inl rfl, ?_⟩, ?_, ?_, ?_, ?_⟩
  · intro j j0 j1
    have j1 : j < 0 := j1
    omega
  · intro j j0 j1
    have j1 : j < 0 := j1
    omega
  · show (shClr s).2.1 0 = 0
    rw [hT, if_neg (by omega), if_pos rfl]
  · intro k k0 k1
    have k1 : k < 1 := k1
    show (shClr s).2.1 k ≤ (shClr s).2.1 (k + 1)
    rw [hT, hT, if_neg (by omega), if_pos (by omega), if_pos (by omega)]
    exact Int.le_refl 0
  · intro j j0 j1
    have j1 : j < 0 := j1
    omega
  · intro a b a0 ab b1
    have b1 : b < 0 := b1
    omega
theorem beF_c (F : Int → Int) (cc : Int) : (-6 ≤ beF F cc ∧ beF F cc ≤ 6) ∨ (97 ≤ beF F cc ∧ beF F cc ≤ 109) := by
  have h1 := bsF_b F cc 0
  have h2 := bsF_b F cc 1
  unfold beF tonO
  (repeat' split) <;> omega
theorem okW_tk {s : zSh} (hw : okW (sK s 0 0)) : okW (tkS (beF s.2.2.1 s.2.2.2.2.1) s) := by
  have h := beF_c s.2.2.1 s.2.2.2.2.1
  by_cases h6 : 6 < beF s.2.2.1 s.2.2.2.2.1
  · rw [tkS_p h6]
    exact okW_key hw (by unfold sigO; rw [if_neg (by decide)]; omega) (Or.inr rfl)
  · rw [tkS_n h6]
    exact okW_key hw (by unfold sigO; rw [if_pos rfl]; omega) (Or.inl rfl)
def Hs (H : Nat → zSh) (ol a : Int) : zSh := H ((ol + a) % 8).toNat
theorem okC_H {H : Nat → zSh} {s : zSh} (hs : okZ s) (h : ∀ i : Nat, i < 8 → okZ (H i)) (j : Nat) : ∀ i : Nat, i < 8 → okZ (hup H j s i) := by
  intro i hi
  unfold hup
  split
  · exact hs
  · exact h i hi
theorem gT_lt {t : zRw} {i : Int} (h : ¬ gT t i = -1) : 0 ≤ i ∧ i < t.1 := by
  unfold gT at h
  split at h
  · assumption
  · exact absurd rfl h
theorem nat9_lt {c : Int} (h : ¬ nat9 c = 100) : ¬ c = -1 := by
  intro h2
  subst h2
  exact h (by decide)
theorem ntR_le {t : zRw} {p : Int} (h : ¬ (ntR (gT t) p).1 = 100) : (ntR (gT t) p).2 ≤ t.1 := by
  have h0 : ¬ nat9 (gT t p) = 100 := fun h2 => h ((ntR_100 _ _).mpr h2)
  have h1 := gT_lt (nat9_lt h0)
  by_cases c1 : gT t (p + 1) = 35
  · have h2 := gT_lt (t := t) (i := p + 1) (by omega)
    rw [ntR_1 h0 c1]; show p + 1 + 1 ≤ t.1; omega
  · by_cases c2 : gT t (p + 1) = 98
    · have h2 := gT_lt (t := t) (i := p + 1) (by omega)
      rw [ntR_2 h0 c1 c2]; show p + 1 + 1 ≤ t.1; omega
    · rw [ntR_3 h0 c1 c2]; show p + 1 ≤ t.1; omega
theorem shR_le {t : zRw} {p : Int} : ∀ (l : List Int) (k : Int), (∀ c ∈ l, ¬ c = -1) → p + k ≤ t.1 → p + shR (gT t) p l k ≤ t.1
  | [], k, _, h => h
  | c :: l, k, hl, h => by
    rw [shR]
    split
    · rename_i h2
      have h3 := gT_lt (t := t) (i := p + k) (by rw [h2]; exact hl c List.mem_cons_self)
      exact shR_le l (k + 1) (fun c hc => hl c (List.mem_cons_of_mem _ hc)) (by omega)
    · exact h
theorem zby_m1 : ∀ q : Nat, q < 10 → ∀ c ∈ zBytes.getD q [], ¬ c = -1 := by decide +kernel
theorem quR_le {t : zRw} {p : Int} (hp : p ≤ t.1) : ∀ (m : Nat) (i lo fo qu : Int), 0 ≤ i → i + m = 10 → p + lo ≤ t.1 → p + (quR (gT t) p m i lo fo qu).1 ≤ t.1
  | 0, i, lo, fo, qu, _, _, h => h
  | m + 1, i, lo, fo, qu, h0, h1, h => by
    have h2 := shR_le (t := t) (p := p) (zBytes.getD i.toNat []) 0 (zby_m1 i.toNat (by omega)) (by omega)
    rw [quR]
    exact ite_P (P := fun x : Int × Int × Int => p + x.1 ≤ t.1) (ite_P (P := fun x : Int × Int × Int => p + x.1 ≤ t.1) (quR_le hp m _ _ _ _ (by omega) (by omega) h2) (quR_le hp m _ _ _ _ (by omega) (by omega) h2)) (ite_P (P := fun x : Int × Int × Int => p + x.1 ≤ t.1) (quR_le hp m _ _ _ _ (by omega) (by omega) h) (quR_le hp m _ _ _ _ (by omega) (by omega) h))
theorem chR_le {t : zRw} {p qu : Int} (hw : (chR (gT t) p qu).2.2.2.2 = 1) : (chR (gT t) p qu).1 ≤ t.1 := by
  unfold chR at hw ⊢
  by_cases c1 : (ntR (gT t) p).1 = 100
  · rw [if_pos c1] at hw; exact absurd hw (show ¬ (0 : Int) = 1 by decide)
  rw [if_neg c1] at hw ⊢
  have h1 := ntR_le c1
  have h2 : (ntR (gT t) p).2 + (quF (gT t) (ntR (gT t) p).2 qu).1 ≤ t.1 := quR_le h1 10 0 (-1) 0 qu (by omega) (by omega) (by omega)
  by_cases c2 : (quF (gT t) (ntR (gT t) p).2 qu).2.1 = 0
  · rw [if_pos c2] at hw; exact absurd hw (show ¬ (0 : Int) = 1 by decide)
  rw [if_neg c2] at hw ⊢
  by_cases c3 : gT t ((ntR (gT t) p).2 + (quF (gT t) (ntR (gT t) p).2 qu).1) = 47
  · rw [if_pos c3] at hw ⊢
    have hw2 : (if (ntR (gT t) ((ntR (gT t) p).2 + (quF (gT t) (ntR (gT t) p).2 qu).1 + 1)).1 = 100 then (0 : Int) else 1) = 1 := hw
    by_cases c4 : (ntR (gT t) ((ntR (gT t) p).2 + (quF (gT t) (ntR (gT t) p).2 qu).1 + 1)).1 = 100
    · rw [if_pos c4] at hw2; exact absurd hw2 (by decide)
    · exact ntR_le c4
  · rw [if_neg c3]
    exact h2
theorem rdS_P {t : zRw} (ht : okT t) : ∀ (m : Nat) (i : Int) (s : zSh) (k : zKd), (0 ≤ i ∧ i ≤ 400) → okD i s → okW (sK s 0 0) → (0 ≤ k.2.2.1 ∧ k.2.2.1 < 10) → t.1 - i < m → (-1 ≤ (rdS (gT t) t.1 m i s k).1 ∧ (rdS (gT t) t.1 m i s k).1 ≤ 1000) ∧ okW (sK (rdS (gT t) t.1 m i s k).2.1 0 0) ∧ (rdS (gT t) t.1 m i s k).2.1.2.2.2.2.2 = s.2.2.2.2.2 ∧ (0 ≤ (rdS (gT t) t.1 m i s k).2.2.2.2.1 ∧ (rdS (gT t) t.1 m i s k).2.2.2.2.1 < 10)
  | 0, i, s, k, hi, hd, hw, hq, hm => ⟨⟨show (-1 : Int) ≤ -1 by omega, show (-1 : Int) ≤ 1000 by omega⟩, hw, rfl, hq⟩
  | m + 1, i, s, k, hi, hd, hw, hq, hm => by
    have cb := chR_b (gT t) (i + 1) k.2.2.1 hq
    have a3 := hd.2.2.2.1
    have t2 := ht.2.1
    rw [rdS]
    by_cases c1 : t.1 ≤ i
    · rw [if_pos c1]; exact ⟨⟨show (-1 : Int) ≤ -1 by omega, show (-1 : Int) ≤ 1000 by omega⟩, hw, rfl, hq⟩
    rw [if_neg c1]
    by_cases c2 : gT t i = 93
    · rw [if_pos c2]; exact ⟨⟨show (-1 : Int) ≤ i by omega, show i ≤ 1000 by omega⟩, hw, rfl, hq⟩
    rw [if_neg c2]
    by_cases c3 : gT t i = 91
    · rw [if_pos c3]
      by_cases c4 : 40 ≤ s.2.2.2.2.1
      · rw [if_pos c4]; exact ⟨⟨show (-1 : Int) ≤ i by omega, show i ≤ 1000 by omega⟩, hw, rfl, hq⟩
      rw [if_neg c4]
      by_cases c5 : (chR (gT t) (i + 1) k.2.2.1).2.2.2.2 = 0
      · rw [if_pos c5]; exact ⟨⟨show (-1 : Int) ≤ (chR (gT t) (i + 1) k.2.2.1).1 by omega, show (chR (gT t) (i + 1) k.2.2.1).1 ≤ 1000 by omega⟩, hw, rfl, cb.2.2.1⟩
      rw [if_neg c5]
      by_cases c6 : gT t (chR (gT t) (i + 1) k.2.2.1).1 = 93
      · rw [if_pos c6]
        have h117 := chR_n (gT t) (i + 1) k.2.2.1 hq (by omega)
        exact rdS_P ht m _ _ _ (by omega) (okD_le (okD_app hd (by omega) (by omega) _ _ _ (by omega) (by omega) (by omega)) (by omega)) (okW_app hw (by omega) (by omega) (by omega) (by omega)) (by omega) (by omega)
      · rw [if_neg c6]; exact ⟨⟨show (-1 : Int) ≤ (chR (gT t) (i + 1) k.2.2.1).1 by omega, show (chR (gT t) (i + 1) k.2.2.1).1 ≤ 1000 by omega⟩, hw, rfl, cb.2.2.1⟩
    rw [if_neg c3]
    have hg := gT_p ht i hi.1 (by omega)
    have hg2 := gT_b ht i
    by_cases c4 : gT t i = 47
    · rw [if_pos c4]
      exact rdS_P ht m _ _ _ (by omega) (okD_line hd (by omega)) (okW_line hw hd (by omega)) hq (by omega)
    · rw [if_neg c4]
      exact rdS_P ht m _ _ _ (by omega) (okD_add hd (by omega) _ (by omega)) (okW_add hw hd (by omega) _ (by omega)) hq (by omega)
theorem rdS_P0 {t : zRw} (ht : okT t) {D : zSh} (hD : okD 200 D) {k : zKd} (hq : 0 ≤ k.2.2.1 ∧ k.2.2.1 < 10) : (-1 ≤ (rdS (gT t) t.1 (t.1.toNat + 1) 0 (shClr D) k).1 ∧ (rdS (gT t) t.1 (t.1.toNat + 1) 0 (shClr D) k).1 ≤ 1000) ∧ okW (sK (rdS (gT t) t.1 (t.1.toNat + 1) 0 (shClr D) k).2.1 0 0) ∧ (rdS (gT t) t.1 (t.1.toNat + 1) 0 (shClr D) k).2.1.2.2.2.2.2 = D.2.2.2.2.2 ∧ (0 ≤ (rdS (gT t) t.1 (t.1.toNat + 1) 0 (shClr D) k).2.2.2.2.1 ∧ (rdS (gT t) t.1 (t.1.toNat + 1) 0 (shClr D) k).2.2.2.2.1 < 10) :=
  rdS_P ht _ 0 (shClr D) k (by omega) (okD_clr hD) (okW_clr hD) hq (by have := ht.1; omega)
theorem rdS_P1 {t : zRw} (ht : okT t) {D : zSh} (hD : okD 200 D ∧ okS D) {k : zKd} (hq : 0 ≤ k.2.2.1 ∧ k.2.2.1 < 10) : (-1 ≤ (rdS (gT t) t.1 (t.1.toNat + 1) 0 (shClr D) k).1 ∧ (rdS (gT t) t.1 (t.1.toNat + 1) 0 (shClr D) k).1 ≤ 1000) ∧ okD 200 (rdS (gT t) t.1 (t.1.toNat + 1) 0 (shClr D) k).2.1 ∧ okN (rdS (gT t) t.1 (t.1.toNat + 1) 0 (shClr D) k).2.1 ∧ okS (rdS (gT t) t.1 (t.1.toNat + 1) 0 (shClr D) k).2.1 := by
  obtain ⟨h1, h2, h3, h4⟩ := rdS_P0 ht hD.1 hq
  have h5 : okD 200 (rdS (gT t) t.1 (t.1.toNat + 1) 0 (shClr D) k).2.1 := h2.1.1
  exact ⟨h1, h5, h2.1.2.1, by rw [h3]; exact hD.2.1, h5.2.2.2.2.2⟩
def pre (r r' : zRw) : Prop := r.1 ≤ r'.1 ∧ ∀ j : Int, 0 ≤ j → j < r.1 → r'.2 j = r.2 j
theorem pre_rL (r : zRw) (l : List Int) : pre r (rL r l) := ⟨by rw [rL_len]; omega, fun j _ j1 => rL_lo r l j j1⟩
theorem pre_rfl (r : zRw) : pre r r := ⟨Int.le_refl _, fun _ _ _ => rfl⟩
theorem pre_tr {r r' r'' : zRw} (h : pre r r') (h2 : pre r' r'') : pre r r'' := ⟨Int.le_trans h.1 h2.1, fun j j0 j1 => (h2.2 j j0 (by have := h.1; omega)).trans (h.2 j j0 j1)⟩
theorem pre_rA (r : zRw) (c : Int) : pre r (rA r c) := pre_rL r [c]
theorem plO_pre (s : zSh) (f : Int) (y : zLy) : pre y.1 (plO s f y).1 ∧ pre y.2.1 (plO s f y).2.1 := by
  refine ⟨pre_tr (pre_rL _ _) (pre_rL _ _), ?_⟩
  show pre y.2.1 (plB y f)
  unfold plB
  split
  · exact pre_rL _ _
  · exact pre_rfl _
theorem plC_pre (s : zSh) (i f : Int) : ∀ (m : Nat) (y : zLy), pre y.1 (plC s i f m y).1 ∧ pre y.2.1 (plC s i f m y).2.1
  | 0, y => ⟨pre_rfl _, pre_rfl _⟩
  | m + 1, y => by
    rw [plC]
    split
    · have h1 := plO_pre s f y
      have h2 := plC_pre s i f m (plO s f y)
      exact ⟨pre_tr h1.1 h2.1, pre_tr h1.2 h2.2⟩
    · exact ⟨pre_rfl _, pre_rfl _⟩
theorem layS_pre (s : zSh) (y : zLy) (k : Int) : pre y.1 (layS s y k).1 ∧ pre y.2.1 (layS s y k).2.1 := by
  have h := plC_pre s k (plcF s y k) s.2.2.2.2.1.toNat y
  exact ⟨h.1, pre_tr h.2 (pre_rA _ _)⟩
/-- the same rows, line and chord at hand -/
def rq (y z : zLy) : Prop := Req y.1 z.1 ∧ Req y.2.1 z.2.1 ∧ y.2.2.1 = z.2.2.1 ∧ y.2.2.2.2.2.1 = z.2.2.2.2.2.1
theorem plO_rq {s : zSh} {f : Int} {y z : zLy} (h : rq y z) : rq (plO s f y) (plO s f z) := by
  obtain ⟨h1, h2, h3, h4⟩ := h
  have hB : Req (plB y f) (plB z f) := by
    unfold plB
    rw [h1.1, h2.1]
    split
    · exact Req_rL h2 _
    · exact h2
  refine ⟨?_, hB, h3, ?_⟩
  · show Req (rL (rL y.1 (List.replicate ((plB y f).1 - y.1.1).toNat 32)) (nameL (s.2.2.1 (y.2.2.2.2.2.1 * 5 + 2)) (s.2.2.1 (y.2.2.2.2.2.1 * 5 + 3)) (s.2.2.1 (y.2.2.2.2.2.1 * 5 + 4)))) (rL (rL z.1 (List.replicate ((plB z f).1 - z.1.1).toNat 32)) (nameL (s.2.2.1 (z.2.2.2.2.2.1 * 5 + 2)) (s.2.2.1 (z.2.2.2.2.2.1 * 5 + 3)) (s.2.2.1 (z.2.2.2.2.2.1 * 5 + 4))))
    rw [h4, hB.1, h1.1]
    exact Req_rL (Req_rL h1 _) _
  · show y.2.2.2.2.2.1 + 1 = z.2.2.2.2.2.1 + 1
    rw [h4]
theorem plC_rq {s : zSh} {i f : Int} : ∀ (m : Nat) (y z : zLy), rq y z → rq (plC s i f m y) (plC s i f m z)
  | 0, y, z, h => h
  | m + 1, y, z, h => by
    rw [plC, plC, h.2.2.1, h.2.2.2]
    split
    · exact plC_rq m _ _ (plO_rq h)
    · exact h
theorem plc_rq {s : zSh} {k : Int} {y z : zLy} (h : rq y z) : rq (plc s y k) (plc s z k) := by
  have e : plcF s y k = plcF s z k := by unfold plcF; rw [h.2.2.1]
  unfold plc
  rw [e]
  exact plC_rq _ _ _ h
theorem layS_rq {s : zSh} {k : Int} {y z : zLy} (h : rq y z) : rq (layS s y k) (layS s z k) := by
  have h1 := plc_rq (s := s) (k := k) h
  refine ⟨h1.1, ?_, h1.2.2.1, h1.2.2.2⟩
  show Req (rA (plc s y k).2.1 (ltr s.1 s.2.1 y.2.2.1 k)) (rA (plc s z k).2.1 (ltr s.1 s.2.1 z.2.2.1 k))
  rw [h.2.2.1]
  exact Req_rA h1.2.1 _
theorem plC_fl (s : zSh) (i f : Int) : ∀ (m : Nat) (y : zLy), (plC s i f m y).2.2.2.1 = y.2.2.2.1 ∧ (plC s i f m y).2.2.2.2.1 = y.2.2.2.2.1 ∧ (plC s i f m y).2.2.2.2.2.2 = y.2.2.2.2.2.2
  | 0, y => ⟨rfl, rfl, rfl⟩
  | m + 1, y => by
    rw [plC]
    split
    · exact plC_fl s i f m _
    · exact ⟨rfl, rfl, rfl⟩
theorem layI_sn (s : zSh) : ∀ (m : Nat) (k : Int) (y : zLy), layI s (m + 1) k y = layS s (layI s m k y) (k + m)
  | 0, k, y => by
    show layS s y k = layS s y (k + ((0 : Nat) : Int))
    rw [show k + ((0 : Nat) : Int) = k by omega]
  | m + 1, k, y => by
    show layI s (m + 1) (k + 1) (layS s y k) = layS s (layI s m (k + 1) (layS s y k)) (k + ((m + 1 : Nat) : Int))
    rw [layI_sn s m (k + 1), show k + 1 + (m : Int) = k + ((m + 1 : Nat) : Int) by omega]
/-- the line laid from a up to k -/
def zZ (s : zSh) (l a k : Int) : zLy := layI s (k - a).toNat a (yB s l a)
theorem zZ_s {s : zSh} {l a k : Int} (h : a ≤ k) : zZ s l a (k + 1) = layS s (zZ s l a k) k := by
  unfold zZ
  rw [show (k + 1 - a).toNat = (k - a).toNat + 1 by omega, layI_sn, show a + (((k - a).toNat : Nat) : Int) = k by omega]
theorem zZ_0 (s : zSh) (l a : Int) : zZ s l a a = yB s l a := by
  unfold zZ
  rw [show (a - a).toNat = 0 by omega]
  rfl
theorem zZ_pre {s : zSh} {l a k : Int} (h : a ≤ k) : ∀ m : Nat, pre (zZ s l a k).1 (zZ s l a (k + m)).1 ∧ pre (zZ s l a k).2.1 (zZ s l a (k + m)).2.1
  | 0 => by rw [show k + ((0 : Nat) : Int) = k by omega]; exact ⟨pre_rfl _, pre_rfl _⟩
  | m + 1 => by
    have h1 := zZ_pre (s := s) (l := l) h m
    have h2 := layS_pre s (zZ s l a (k + m)) (k + m)
    rw [← zZ_s (by omega), show k + (m : Int) + 1 = k + ((m + 1 : Nat) : Int) by omega] at h2
    exact ⟨pre_tr h1.1 h2.1, pre_tr h1.2 h2.2⟩
theorem zZ_le {s : zSh} {l a k k' : Int} (h : a ≤ k) (h2 : k ≤ k') : pre (zZ s l a k).1 (zZ s l a k').1 ∧ pre (zZ s l a k).2.1 (zZ s l a k').2.1 := by
  have := zZ_pre (s := s) (l := l) h (k' - k).toNat
  rwa [show k + (((k' - k).toNat : Nat) : Int) = k' by omega] at this
theorem layE_z {s : zSh} {l a k : Int} : layE s l a k (yB s l a) = if k = s.2.1 (l + 1) - s.2.1 l then plc s (zZ s l a k) k else zZ s l a k := rfl
theorem zZ_E {s : zSh} {l a k k' : Int} (h : a ≤ k) (h2 : k ≤ k') : pre (zZ s l a k).1 (layE s l a k' (yB s l a)).1 ∧ pre (zZ s l a k).2.1 (layE s l a k' (yB s l a)).2.1 := by
  have h3 := zZ_le (s := s) (l := l) h h2
  rw [layE_z]
  split
  · have h4 := plC_pre s k' (plcF s (zZ s l a k') k') s.2.2.2.2.1.toNat (zZ s l a k')
    exact ⟨pre_tr h3.1 h4.1, pre_tr h3.2 h4.2⟩
  · exact h3
theorem fit_mono {s : zSh} {l w a k k' : Int} (h : a ≤ k) (h2 : k < k') (h3 : k' ≤ s.2.1 (l + 1) - s.2.1 l) (hf : fit s l w a k') : fit s l w a k := by
  have h4 := zZ_E (s := s) (l := l) h (Int.le_of_lt h2)
  have e : layE s l a k (yB s l a) = zZ s l a k := by rw [layE_z, if_neg (by omega)]
  show (layE s l a k (yB s l a)).1.1 ≤ w ∧ (layE s l a k (yB s l a)).2.1.1 ≤ w
  rw [e]
  exact ⟨Int.le_trans h4.1.1 hf.1, Int.le_trans h4.2.1 hf.2⟩
theorem zZ_ln {s : zSh} {l a k : Int} (h : a ≤ k) : (zZ s l a k).2.2.1 = l := by
  have : ∀ m : Nat, (zZ s l a (a + m)).2.2.1 = l := by
    intro m
    induction m with
    | zero => rw [show a + ((0 : Nat) : Int) = a by omega, zZ_0]; rfl
    | succ m ih => rw [show a + ((m + 1 : Nat) : Int) = a + m + 1 by omega, zZ_s (by omega), layS_ln, ih]
  have h2 := this (k - a).toNat
  rwa [show a + (((k - a).toNat : Nat) : Int) = k by omega] at h2
theorem zZ_ok {s : zSh} (hs : okW s) {l a k : Int} (hl : 0 ≤ l ∧ l < s.2.2.2.1) (ha : 0 ≤ a) (h : a ≤ k) : okY s k (zZ s l a k) := by
  have h1 := layI_ok hs.1.2.1 (k - a).toNat a (yB s l a) (yB_ok hs hl ha)
  rwa [show a + (((k - a).toNat : Nat) : Int) = k by omega] at h1
theorem zZ_ptr {s : zSh} (hs : okW s) {l a k : Int} (hl : 0 ≤ l ∧ l < s.2.2.2.1) (ha : 0 ≤ a) (h : a ≤ k) : ptr s l k (zZ s l a k).2.2.2.2.2.1 := by
  have : ∀ m : Nat, ptr s l (a + m) (zZ s l a (a + m)).2.2.2.2.2.1 := by
    intro m
    induction m with
    | zero => rw [show a + ((0 : Nat) : Int) = a by omega, zZ_0]; exact yB_ptr hs l a
    | succ m ih =>
      rw [show a + ((m + 1 : Nat) : Int) = a + m + 1 by omega, zZ_s (by omega)]
      exact layS_ptr hs (zZ_ln (by omega)) (zZ_ok hs hl ha (by omega)).2.2.1.1 ih
  have h2 := this (k - a).toNat
  rwa [show a + (((k - a).toNat : Nat) : Int) = k by omega] at h2
theorem ptr_uq {s : zSh} {l a c c' : Int} (h : ptr s l a c) (h' : ptr s l a c') (hc : 0 ≤ c ∧ c ≤ s.2.2.2.2.1) (hc' : 0 ≤ c' ∧ c' ≤ s.2.2.2.2.1) : c = c' := by
  by_cases h1 : c < c'
  · exact absurd (h'.1 c hc.1 h1) (h.2 c (Int.le_refl _) (by omega))
  · by_cases h2 : c' < c
    · exact absurd (h.1 c' hc'.1 h2) (h'.2 c' (Int.le_refl _) (by omega))
    · omega
/-- where a pair ends: told without the way it is sought -/
def isE (s : zSh) (l w a E : Int) : Prop := (a = s.2.1 (l + 1) - s.2.1 l ∧ E = a) ∨ ((a < E ∧ E ≤ s.2.1 (l + 1) - s.2.1 l) ∧ brk s l E ∧ ((fit s l w a E ∧ ∀ k, E < k → k ≤ s.2.1 (l + 1) - s.2.1 l → brk s l k → ¬ fit s l w a k) ∨ (¬ fit s l w a E ∧ ∀ k, a < k → k < E → ¬ brk s l k)))
theorem edR_fit {s : zSh} {l w a E : Int} (ha : 0 ≤ a) (hE : a < E ∧ E ≤ s.2.1 (l + 1) - s.2.1 l) (hb : brk s l E) (hf : fit s l w a E) (hn : ∀ k, E < k → k ≤ s.2.1 (l + 1) - s.2.1 l → brk s l k → ¬ fit s l w a k) : ∀ (m : Nat) (k nx be : Int), k = a + m → k ≤ s.2.1 (l + 1) - s.2.1 l → ((E ≤ k ∧ be = -1) ∨ (k < E ∧ be = E)) → edR s l w a m k nx be = E
  | 0, k, nx, be, hk, hk2, h => by
    rw [edR, if_neg (by omega)]
    omega
  | m + 1, k, nx, be, hk, hk2, h => by
    rw [edR]
    by_cases h9 : brk s l k
    · rw [if_pos h9]
      refine edR_fit ha hE hb hf hn m (k - 1) k _ (by omega) (by omega) ?_
      by_cases hkE : k = E
      · rw [if_pos ⟨by omega, by rw [hkE]; exact hf⟩]; omega
      · by_cases hk3 : E < k
        · rw [if_neg (fun h => hn k hk3 hk2 h9 h.2)]; omega
        · rw [if_neg (by omega)]; omega
    · rw [if_neg h9]
      have : ¬ k = E := fun h => h9 (by rw [h]; exact hb)
      exact edR_fit ha hE hb hf hn m (k - 1) nx be (by omega) (by omega) (by omega)
theorem edR_no {s : zSh} {l w a E : Int} (hE : a < E ∧ E ≤ s.2.1 (l + 1) - s.2.1 l) (hb : brk s l E) (hn : ∀ k, E ≤ k → k ≤ s.2.1 (l + 1) - s.2.1 l → ¬ fit s l w a k) (hm : ∀ k, a < k → k < E → ¬ brk s l k) : ∀ (m : Nat) (k nx : Int), k = a + m → k ≤ s.2.1 (l + 1) - s.2.1 l → (k < E → nx = E) → edR s l w a m k nx (-1) = E
  | 0, k, nx, hk, hk2, h => by
    rw [edR, if_pos (by decide)]
    exact h (by omega)
  | m + 1, k, nx, hk, hk2, h => by
    rw [edR]
    by_cases h9 : brk s l k
    · rw [if_pos h9]
      have hk3 : E ≤ k := by
        by_cases hk4 : E ≤ k
        · exact hk4
        · exact absurd h9 (hm k (by omega) (by omega))
      rw [if_neg (fun h => hn k hk3 hk2 h.2)]
      exact edR_no hE hb hn hm m (k - 1) k (by omega) (by omega) (by omega)
    · rw [if_neg h9]
      have : ¬ k = E := fun h => h9 (by rw [h]; exact hb)
      exact edR_no hE hb hn hm m (k - 1) nx (by omega) (by omega) (fun h2 => h (by omega))
theorem isE_e {s : zSh} {l w a E : Int} (ha : 0 ≤ a) (h : isE s l w a E) : edF s l w a = E := by
  rcases h with ⟨h1, h2⟩ | ⟨h1, h2, ⟨h3, h4⟩ | ⟨h3, h4⟩⟩
  · unfold edF
    rw [show (s.2.1 (l + 1) - s.2.1 l - a).toNat = 0 by omega, edR, if_pos (by decide)]
    omega
  · exact edR_fit ha h1 h2 h3 h4 _ _ _ _ (by omega) (Int.le_refl _) (by omega)
  · refine edR_no h1 h2 ?_ h4 _ _ _ (by omega) (Int.le_refl _) (by omega)
    intro k k0 k1 hf
    by_cases hk : k = E
    · rw [hk] at hf; exact h3 hf
    · exact h3 (fit_mono (by omega) (by omega) k1 hf)
/-- what stands while a pair is laid -/
def kI (s : zSh) (l w a i : Int) (y : zLy) : Prop := rq y (zZ s l a i) ∧ y.2.2.2.1 = w ∧ y.2.2.2.2.1 = a ∧ ((y.2.2.2.2.2.2.1 = -1 ∧ ∀ c, a < c → c < i → ¬ brk s l c) ∨ ((a < y.2.2.2.2.2.2.1 ∧ y.2.2.2.2.2.2.1 < i) ∧ brk s l y.2.2.2.2.2.2.1 ∧ fit s l w a y.2.2.2.2.2.2.1 ∧ y.2.2.2.2.2.2.2.2.1 = (zZ s l a y.2.2.2.2.2.2.1).1.1 ∧ y.2.2.2.2.2.2.2.2.2 = (zZ s l a y.2.2.2.2.2.2.1).2.1.1 ∧ y.2.2.2.2.2.2.2.1 = (zZ s l a y.2.2.2.2.2.2.1).2.2.2.2.2.1 ∧ ∀ c, y.2.2.2.2.2.2.1 < c → c < i → ¬ brk s l c))
/-- what stands when a pair is laid -/
def kE (s : zSh) (l w a : Int) (y : zLy) : Prop := isE s l w a y.2.2.2.2.2.2.1 ∧ Req y.1 (layE s l a y.2.2.2.2.2.2.1 (yB s l a)).1 ∧ Req y.2.1 (layE s l a y.2.2.2.2.2.2.1 (yB s l a)).2.1 ∧ y.2.2.1 = l ∧ y.2.2.2.1 = w ∧ (y.2.2.2.2.2.2.1 < s.2.1 (l + 1) - s.2.1 l → y.2.2.2.2.2.2.2.1 = (zZ s l a y.2.2.2.2.2.2.1).2.2.2.2.2.1)
theorem rC_self {r : zRw} : rC r r.1 = r := by
  unfold rC
  rw [if_neg (by omega)]
theorem rC_pre {r r' z : zRw} (h : Req r' z) (h2 : pre r z) (h0 : 0 ≤ r.1) : Req (rC r' r.1) r := by
  have h3 := h.1
  have h4 := h2.1
  refine ⟨?_, ?_⟩
  · show (if 0 ≤ r.1 ∧ r.1 < r'.1 then r.1 else r'.1) = r.1
    split <;> omega
  · intro j j0 j1
    have j2 : j < r.1 := by
      have : (rC r' r.1).1 = r.1 := by
        show (if 0 ≤ r.1 ∧ r.1 < r'.1 then r.1 else r'.1) = r.1
        split <;> omega
      omega
    show r'.2 j = r.2 j
    rw [h.2 j j0 (by omega), h2.2 j j0 j2]
theorem cut_acc {y : zLy} (h1 : y.2.2.2.2.2.2.2.2.1 = y.1.1) (h2 : y.2.2.2.2.2.2.2.2.2 = y.2.1.1) : (cutB y).1 = y.1 ∧ (cutB y).2.1 = y.2.1 := by
  constructor
  · show rC y.1 y.2.2.2.2.2.2.2.2.1 = y.1
    rw [h1, rC_self]
  · show rC y.2.1 y.2.2.2.2.2.2.2.2.2 = y.2.1
    rw [h2, rC_self]
theorem inB_brk {s : zSh} (hs : okW s) {l a i : Int} {y : zLy} (hl : 0 ≤ l ∧ l < s.2.2.2.1) (hln : y.2.2.1 = l) (hbg : y.2.2.2.2.1 = a) (ha : 0 ≤ a) (hai : a < i) (hi : i < s.2.1 (l + 1) - s.2.1 l) : ¬ inB s y i = 0 ↔ brk s l i := by
  have hD := hs.1.1
  have z1 := hD.1
  have t1 := hD.2.2.1 l (by omega) (by omega)
  have t2 := hD.2.2.1 (l + 1) (by omega) (by omega)
  have h1 := isLt_1 hD.2.2.2.2.2 t1.1 t2.2 i
  unfold inB
  rw [hln, hbg]
  constructor
  · intro h
    have h2 := ite1 h
    exact Or.inr (Or.inr ⟨(h1.mp h2.2.1).2, h2.2.2⟩)
  · rintro (h | h | h)
    · omega
    · omega
    · rw [if_pos ⟨hai, h1.mpr ⟨by omega, h.1⟩, h.2⟩]; decide
theorem layK_0 (s : zSh) (len : Int) (m : Nat) (i : Int) (y : zLy) : layK s len m i 0 y = layF s len 0 y := by
  cases m with
  | zero => rfl
  | succ m => rw [layK, if_pos (Or.inl rfl)]
theorem kE_old {s : zSh} (hs : okW s) {l w a i : Int} {y z : zLy} (hl : 0 ≤ l ∧ l < s.2.2.2.1) (ha : 0 ≤ a) (hi : i ≤ s.2.1 (l + 1) - s.2.1 l) (hy : y.2.2.1 = l ∧ y.2.2.2.1 = w) (hra : Req y.1 z.1) (hrb : Req y.2.1 z.2.1) (hz : ∀ e, a ≤ e → e < i → pre (zZ s l a e).1 z.1 ∧ pre (zZ s l a e).2.1 z.2.1) (hE : (a < y.2.2.2.2.2.2.1 ∧ y.2.2.2.2.2.2.1 < i) ∧ brk s l y.2.2.2.2.2.2.1 ∧ fit s l w a y.2.2.2.2.2.2.1 ∧ y.2.2.2.2.2.2.2.2.1 = (zZ s l a y.2.2.2.2.2.2.1).1.1 ∧ y.2.2.2.2.2.2.2.2.2 = (zZ s l a y.2.2.2.2.2.2.1).2.1.1 ∧ y.2.2.2.2.2.2.2.1 = (zZ s l a y.2.2.2.2.2.2.1).2.2.2.2.2.1 ∧ ∀ c, y.2.2.2.2.2.2.1 < c → c < i → ¬ brk s l c) (hno : ∀ k, i ≤ k → k ≤ s.2.1 (l + 1) - s.2.1 l → ¬ fit s l w a k) : kE s l w a (cutB y) := by
  obtain ⟨e1, e2, e3, e4, e5, e6, e7⟩ := hE
  have hz2 := hz y.2.2.2.2.2.2.1 (by omega) e1.2
  have hok := zZ_ok hs hl ha (show a ≤ y.2.2.2.2.2.2.1 by omega)
  have eE : layE s l a y.2.2.2.2.2.2.1 (yB s l a) = zZ s l a y.2.2.2.2.2.2.1 := by rw [layE_z, if_neg (by omega)]
  refine ⟨Or.inr ⟨⟨e1.1, by show y.2.2.2.2.2.2.1 ≤ _; omega⟩, e2, Or.inl ⟨e3, ?_⟩⟩, ?_, ?_, hy.1, hy.2, fun _ => e6⟩
  · intro k k0 k1 k2
    have k0 : y.2.2.2.2.2.2.1 < k := k0
    by_cases hk : k < i
    · exact absurd k2 (e7 k k0 hk)
    · exact hno k (by omega) k1
  · show Req (rC y.1 y.2.2.2.2.2.2.2.2.1) (layE s l a y.2.2.2.2.2.2.1 (yB s l a)).1
    rw [eE, e4]
    exact rC_pre hra hz2.1 hok.1.1
  · show Req (rC y.2.1 y.2.2.2.2.2.2.2.2.2) (layE s l a y.2.2.2.2.2.2.1 (yB s l a)).2.1
    rw [eE, e5]
    exact rC_pre hrb hz2.2 hok.2.1.1
theorem layK_E {s : zSh} (hs : okW s) {l w a : Int} (hl : 0 ≤ l ∧ l < s.2.2.2.1) (ha : 0 ≤ a) : ∀ (m : Nat) (i : Int) (y : zLy), a ≤ i → i ≤ s.2.1 (l + 1) - s.2.1 l → s.2.1 (l + 1) - s.2.1 l - i < m → kI s l w a i y → kE s l w a (layK s (s.2.1 (l + 1) - s.2.1 l) m i 1 y)
  | 0, i, y, h0, h1, hm, _ => absurd hm (by omega)
  | m + 1, i, y, h0, h1, hm, hk => by
    obtain ⟨q1, q2, q3, q4⟩ := hk
    have hln : y.2.2.1 = l := q1.2.2.1.trans (zZ_ln h0)
    rw [layK]
    by_cases hi : s.2.1 (l + 1) - s.2.1 l ≤ i
    · rw [if_pos (Or.inr hi)]
      have hie : i = s.2.1 (l + 1) - s.2.1 l := by omega
      have p1 := plc_rq (s := s) (k := i) q1
      have p2 := plC_fl s i (plcF s y i) s.2.2.2.2.1.toNat y
      have p3 : (plc s y i).2.2.1 = l := (plC_ln s i _ _ y).trans hln
      have eE : layE s l a i (yB s l a) = plc s (zZ s l a i) i := by rw [layE_z, if_pos hie]
      unfold layF
      rw [if_neg (show ¬ (1 : Int) = 0 by decide), ← hie]
      have p4 : (plc s y i).2.2.2.2.2.2 = y.2.2.2.2.2.2 := p2.2.2
      have p5 : (plc s y i).2.2.2.1 = w := p2.1.trans q2
      have hfit : offF (plc s y i) = 1 ↔ fit s l w a i := by
        unfold offF
        rw [p5, p1.1.1, p1.2.1.1]
        show _ ↔ (layE s l a i (yB s l a)).1.1 ≤ w ∧ (layE s l a i (yB s l a)).2.1.1 ≤ w
        rw [eE]
        constructor
        · intro h
          split at h
          · assumption
          · exact absurd h (by decide)
        · intro h
          exact if_pos h
      by_cases hacc : offF (plc s y i) = 1 ∨ (plc s y i).2.2.2.2.2.2.1 = -1
      · have eo : offE (plc s y i) i = ((plc s y i).1, (plc s y i).2.1, (plc s y i).2.2.1, (plc s y i).2.2.2.1, (plc s y i).2.2.2.2.1, (plc s y i).2.2.2.2.2.1, i, (plc s y i).2.2.2.2.2.1, (plc s y i).1.1, (plc s y i).2.1.1) := if_pos hacc
        rw [eo]
        have hc := cut_acc (y := ((plc s y i).1, (plc s y i).2.1, (plc s y i).2.2.1, (plc s y i).2.2.2.1, (plc s y i).2.2.2.2.1, (plc s y i).2.2.2.2.2.1, i, (plc s y i).2.2.2.2.2.1, (plc s y i).1.1, (plc s y i).2.1.1)) rfl rfl
        refine ⟨?_, ?_, ?_, p3, p5, ?_⟩
        · show isE s l w a i
          by_cases hai : a = i
          · exact Or.inl ⟨by omega, hai.symm⟩
          · refine Or.inr ⟨⟨by omega, by omega⟩, Or.inr (Or.inl hie), ?_⟩
            by_cases hf : fit s l w a i
            · exact Or.inl ⟨hf, fun k k0 k1 => absurd k1 (by omega)⟩
            · right
              refine ⟨hf, ?_⟩
              rcases q4 with q5 | q5
              · exact q5.2
              · exfalso
                rcases hacc with h | h
                · exact hf (hfit.mp h)
                · rw [p4] at h
                  have := q5.1.1
                  omega
        · rw [hc.1]
          show Req (plc s y i).1 (layE s l a i (yB s l a)).1
          rw [eE]; exact p1.1
        · rw [hc.2]
          show Req (plc s y i).2.1 (layE s l a i (yB s l a)).2.1
          rw [eE]; exact p1.2.1
        · intro h
          have h : i < s.2.1 (l + 1) - s.2.1 l := h
          omega
      · have eo : offE (plc s y i) i = plc s y i := if_neg hacc
        rw [eo]
        have hnf : ¬ fit s l w a i := fun h => hacc (Or.inl (hfit.mpr h))
        have hen : ¬ (plc s y i).2.2.2.2.2.2.1 = -1 := fun h => hacc (Or.inr h)
        rw [p4] at hen
        rcases q4 with q5 | q5
        · exact absurd q5.1 hen
        · refine kE_old hs hl ha (i := i) (z := plc s (zZ s l a i) i) h1 ⟨p3, p5⟩ p1.1 p1.2.1 ?_ (by rw [p4]; exact q5) ?_
          · intro e e0 e1
            have h3 := zZ_E (s := s) (l := l) (k := e) (k' := i) e0 (by omega)
            rw [eE] at h3
            exact h3
          · intro k k0 k1
            rw [show k = i by omega]
            exact hnf
    · rw [if_neg (show ¬ ((1 : Int) = 0 ∨ s.2.1 (l + 1) - s.2.1 l ≤ i) by omega)]
      have s1 := layS_rq (s := s) (k := i) q1
      rw [← zZ_s h0] at s1
      by_cases hin : inB s y i = 0
      · rw [if_pos hin]
        have hnb : a < i → ¬ brk s l i := fun hai h => (inB_brk hs hl hln q3 ha hai (by omega)).mpr h hin
        have f1 := plC_fl s i (plcF s y i) s.2.2.2.2.1.toNat y
        have f4 : (layS s y i).2.2.2.2.2.2 = y.2.2.2.2.2.2 := f1.2.2
        refine layK_E hs hl ha m (i + 1) (layS s y i) (by omega) (by omega) (by omega) ⟨s1, f1.1.trans q2, f1.2.1.trans q3, ?_⟩
        rw [f4]
        rcases q4 with q5 | q5
        · left
          refine ⟨q5.1, fun c c0 c1 => ?_⟩
          by_cases hc : c = i
          · rw [hc]; exact hnb (by omega)
          · exact q5.2 c c0 (by omega)
        · right
          obtain ⟨e1, e2, e3, e4, e5, e6, e7⟩ := q5
          refine ⟨⟨e1.1, by omega⟩, e2, e3, e4, e5, e6, fun c c0 c1 => ?_⟩
          by_cases hc : c = i
          · rw [hc]; exact hnb (by omega)
          · exact e7 c c0 (by omega)
      · rw [if_neg hin]
        have hai : a < i := by
          have h2 := ite1 hin
          omega
        have hbr := (inB_brk hs hl hln q3 ha hai (by omega)).mp hin
        have eE : layE s l a i (yB s l a) = zZ s l a i := by rw [layE_z, if_neg (by omega)]
        have hfit : offF y = 1 ↔ fit s l w a i := by
          unfold offF
          rw [q2, q1.1.1, q1.2.1.1]
          show _ ↔ (layE s l a i (yB s l a)).1.1 ≤ w ∧ (layE s l a i (yB s l a)).2.1.1 ≤ w
          rw [eE]
          constructor
          · intro h
            split at h
            · assumption
            · exact absurd h (by decide)
          · intro h
            exact if_pos h
        by_cases hf : offF y = 1
        · rw [if_pos hf]
          have eo : offE y i = (y.1, y.2.1, y.2.2.1, y.2.2.2.1, y.2.2.2.2.1, y.2.2.2.2.2.1, i, y.2.2.2.2.2.1, y.1.1, y.2.1.1) := if_pos (Or.inl hf)
          rw [eo]
          have r1 : rq (y.1, y.2.1, y.2.2.1, y.2.2.2.1, y.2.2.2.2.1, y.2.2.2.2.2.1, i, y.2.2.2.2.2.1, y.1.1, y.2.1.1) (zZ s l a i) := q1
          have s2 := layS_rq (s := s) (k := i) r1
          rw [← zZ_s h0] at s2
          have f1 := plC_fl s i (plcF s (y.1, y.2.1, y.2.2.1, y.2.2.2.1, y.2.2.2.2.1, y.2.2.2.2.2.1, i, y.2.2.2.2.2.1, y.1.1, y.2.1.1) i) s.2.2.2.2.1.toNat (y.1, y.2.1, y.2.2.1, y.2.2.2.1, y.2.2.2.2.1, y.2.2.2.2.2.1, i, y.2.2.2.2.2.1, y.1.1, y.2.1.1)
          have f4 : (layS s (y.1, y.2.1, y.2.2.1, y.2.2.2.1, y.2.2.2.2.1, y.2.2.2.2.2.1, i, y.2.2.2.2.2.1, y.1.1, y.2.1.1) i).2.2.2.2.2.2 = (i, y.2.2.2.2.2.1, y.1.1, y.2.1.1) := f1.2.2
          refine layK_E hs hl ha m (i + 1) _ (by omega) (by omega) (by omega) ⟨s2, f1.1.trans q2, f1.2.1.trans q3, Or.inr ?_⟩
          rw [f4]
          exact ⟨⟨hai, by show i < i + 1; omega⟩, hbr, hfit.mp hf, q1.1.1, q1.2.1.1, q1.2.2.2, fun c c0 c1 => absurd c1 (by have c0 : i < c := c0; omega)⟩
        · rw [if_neg hf, layK_0]
          have hnf : ∀ k, i ≤ k → k ≤ s.2.1 (l + 1) - s.2.1 l → ¬ fit s l w a k := by
            intro k k0 k1 hfk
            by_cases hk : k = i
            · rw [hk] at hfk; exact hf (hfit.mpr hfk)
            · exact hf (hfit.mpr (fit_mono h0 (by omega) k1 hfk))
          unfold layF
          rw [if_pos rfl]
          rcases q4 with q5 | q5
          · have eo : offE y i = (y.1, y.2.1, y.2.2.1, y.2.2.2.1, y.2.2.2.2.1, y.2.2.2.2.2.1, i, y.2.2.2.2.2.1, y.1.1, y.2.1.1) := if_pos (Or.inr q5.1)
            rw [eo]
            have hc := cut_acc (y := (y.1, y.2.1, y.2.2.1, y.2.2.2.1, y.2.2.2.2.1, y.2.2.2.2.2.1, i, y.2.2.2.2.2.1, y.1.1, y.2.1.1)) rfl rfl
            refine ⟨?_, ?_, ?_, hln, q2, ?_⟩
            · show isE s l w a i
              exact Or.inr ⟨⟨hai, by omega⟩, hbr, Or.inr ⟨hnf i (Int.le_refl _) h1, q5.2⟩⟩
            · rw [hc.1]
              show Req y.1 (layE s l a i (yB s l a)).1
              rw [eE]; exact q1.1
            · rw [hc.2]
              show Req y.2.1 (layE s l a i (yB s l a)).2.1
              rw [eE]; exact q1.2.1
            · intro _
              show y.2.2.2.2.2.1 = (zZ s l a i).2.2.2.2.2.1
              exact q1.2.2.2
          · have eo : offE y i = y := if_neg (by rintro (h | h); exact hf h; have := q5.1.1; omega)
            rw [eo]
            exact kE_old hs hl ha (i := i) (z := zZ s l a i) h1 ⟨hln, q2⟩ q1.1 q1.2.1 (fun e e0 e1 => zZ_le e0 (by omega)) q5 hnf
/-- between pairs: the next begins at a -/
def bP (s : zSh) (l w a : Int) (y : zLy) : Prop := okP s y ∧ y.2.2.1 = l ∧ y.2.2.2.1 = w ∧ (y.2.2.2.2.2.2.1 = a ∨ (y.2.2.2.2.2.2.1 = -1 ∧ a = 0)) ∧ (0 ≤ a ∧ a ≤ s.2.1 (l + 1) - s.2.1 l) ∧ (y.2.2.2.2.2.2.1 < s.2.1 (l + 1) - s.2.1 l → ptr s l a y.2.2.2.2.2.2.2.1)
theorem layN_E {s : zSh} (hs : okW s) {l w a : Int} {y : zLy} (hl : 0 ≤ l ∧ l < s.2.2.2.1) (hb : bP s l w a y) (hen : y.2.2.2.2.2.2.1 < s.2.1 (l + 1) - s.2.1 l) : bP s l w (edF s l w a) (layN s y) ∧ Req (layN s y).1 (layE s l a (edF s l w a) (yB s l a)).1 ∧ Req (layN s y).2.1 (layE s l a (edF s l w a) (yB s l a)).2.1 ∧ (layN s y).2.2.2.2.2.2.1 = edF s l w a := by
  obtain ⟨b1, b2, b3, b4, b5, b6⟩ := hb
  have hD := hs.1.1
  have hc := hD.2.2.2.1
  have z1 := hD.1
  have t1 := hD.2.2.1 l (by omega) (by omega)
  have t2 := hD.2.2.1 (l + 1) (by omega) (by omega)
  have hp := layN_P hs.1.2.1 hc.2 hD.2.2.1 b1
  have hmax : max y.2.2.2.2.2.2.1 0 = a := by omega
  have e1 : layN s y = layK s (s.2.1 (l + 1) - s.2.1 l) 201 a 1 (lay0 y) := by
    unfold layN
    rw [b2, hmax, if_neg (by omega)]
  have hyb := yB_ok hs (l := l) (a := a) hl b5.1
  have hch : y.2.2.2.2.2.2.2.1 = (yB s l a).2.2.2.2.2.1 := ptr_uq (b6 hen) (yB_ptr hs l a) b1.2.2.2.2.2.1 hyb.2.2.1
  have ra : (rC y.1 0).1 = 0 := rC_0 b1.1.1
  have rb : (rC y.2.1 0).1 = 0 := rC_0 b1.2.1.1
  have hq : rq (lay0 y) (zZ s l a a) := by
    rw [zZ_0]
    exact ⟨⟨ra, fun j j0 j1 => absurd j1 (by show ¬ j < (rC y.1 0).1; omega)⟩, ⟨rb, fun j j0 j1 => absurd j1 (by show ¬ j < (rC y.2.1 0).1; omega)⟩, b2, hch⟩
  have hk : kI s l w a a (lay0 y) := ⟨hq, b3, hmax, Or.inl ⟨rfl, fun c c0 c1 => absurd c1 (by omega)⟩⟩
  have hE := layK_E hs hl b5.1 201 a (lay0 y) (Int.le_refl _) b5.2 (by omega) hk
  rw [← e1] at hE
  obtain ⟨g1, g2, g3, g4, g5, g6⟩ := hE
  have hed := isE_e b5.1 g1
  have hb2 := edF_b (s := s) (l := l) (w := w) (a := a) b5
  rw [← hed] at g2 g3 g6
  refine ⟨⟨hp, g4, g5, Or.inl hed.symm, ⟨by omega, hb2.2⟩, ?_⟩, g2, g3, hed.symm⟩
  intro h
  rw [g6 (by omega)]
  exact zZ_ptr hs hl b5.1 (by omega)
theorem staL_b {s : zSh} (hs : okW s) {l w : Int} {y : zLy} (hl : 0 ≤ l ∧ l < s.2.2.2.1) (hq : okQ y) (hw : zin w) : bP s l w 0 (staL s y l w) := by
  have hD := hs.1.1
  have t3 := hs.2.2.1 l (by omega) (by omega)
  refine ⟨staL_P hq (by have := hD.1; omega) hw hD.2.2.2.1.1, rfl, rfl, Or.inr ⟨rfl, rfl⟩, ⟨Int.le_refl _, by omega⟩, fun _ => ?_⟩
  have h := yB_ptr hs l 0
  exact h
theorem layG_1 {s : zSh} {l : Int} {y : zLy} (h : y.2.2.1 = l) : layG s y = if s.2.1 (l + 1) - s.2.1 l ≤ y.2.2.2.2.2.2.1 then 0 else 1 := by unfold layG; rw [h]
theorem cnt_eq {s : zSh} (hs : okW s) {l w : Int} (hl : 0 ≤ l ∧ l < s.2.2.2.1) : ∀ (m m' : Nat) (a n : Int) (y : zLy), bP s l w a y → y.2.2.2.2.2.2.1 = a → (0 ≤ n ∧ n ≤ a + 1) → s.2.1 (l + 1) - s.2.1 l - a < m → s.2.1 (l + 1) - s.2.1 l - a < m' → (cntP s m n y).1 = prR s l w m' a n
  | 0, m', a, n, y, hb, _, _, h1, _ => absurd h1 (by have := hb.2.2.2.2.1; omega)
  | m + 1, 0, a, n, y, hb, _, _, _, h1 => absurd h1 (by have := hb.2.2.2.2.1; omega)
  | m + 1, m' + 1, a, n, y, hb, hen, hn, h1, h2 => by
    have b5 := hb.2.2.2.2.1
    have hD := hs.1.1
    have t1 := hD.2.2.1 l (by have := hD.1; omega) (by have := hD.1; omega)
    have t2 := hD.2.2.1 (l + 1) (by have := hD.1; omega) (by have := hD.1; omega)
    rw [cntP, prR, layG_1 hb.2.1, hen]
    by_cases hlt : a < s.2.1 (l + 1) - s.2.1 l
    · rw [if_neg (show ¬ 200 < n by omega), if_neg (show ¬ s.2.1 (l + 1) - s.2.1 l ≤ a by omega), if_neg (show ¬ (1 : Int) = 0 by decide), if_pos hlt]
      have hN := layN_E hs hl hb (by omega)
      have hb2 := edF_b (s := s) (l := l) (w := w) (a := a) b5
      exact cnt_eq hs hl m m' _ _ _ hN.1 hN.2.2.2 (by omega) (by omega) (by omega)
    · rw [if_pos (show s.2.1 (l + 1) - s.2.1 l ≤ a by omega), if_neg hlt]
      split
      · rfl
      · rw [if_pos rfl]
theorem prR_end {s : zSh} {l w k : Int} (h : ¬ k < s.2.1 (l + 1) - s.2.1 l) {m : Nat} {n : Int} : prR s l w m k n = n := by
  cases m with
  | zero => rfl
  | succ m => rw [prR, if_neg h]
theorem cnt_0 {s : zSh} (hs : okW s) {l w : Int} {y : zLy} (hl : 0 ≤ l ∧ l < s.2.2.2.1) (hq : okQ y) (hw : zin w) : (cntP s 201 0 (staL s y l w)).1 = prF s l w := by
  have hb := staL_b hs hl hq hw
  have hD := hs.1.1
  have z1 := hD.1
  have t1 := hD.2.2.1 l (by omega) (by omega)
  have t2 := hD.2.2.1 (l + 1) (by omega) (by omega)
  have b5 := hb.2.2.2.2.1
  have hN := layN_E hs hl hb (show (-1 : Int) < _ by omega)
  have hb2 := edF_b (s := s) (l := l) (w := w) (a := 0) b5
  have hg : layG s (staL s y l w) = 1 := by
    rw [layG_1 (l := l) rfl]
    exact if_neg (show ¬ s.2.1 (l + 1) - s.2.1 l ≤ (-1 : Int) by omega)
  rw [cntP, if_neg (show ¬ (200 : Int) < 0 by decide), hg, if_neg (show ¬ (1 : Int) = 0 by decide)]
  unfold prF
  rw [cnt_eq hs hl 200 200 (edF s l w 0) (0 + 1) (layN s (staL s y l w)) hN.1 hN.2.2.2 (by omega) (by omega) (by omega)]
  by_cases h0 : s.2.1 (l + 1) - s.2.1 l = 0
  · rw [if_pos h0, prR_end (k := edF s l w 0) (by omega), prR_end (k := 0) (by omega)]
    rfl
  · rw [if_neg h0, prR.eq_def s l w 201 0 0]
    exact (if_pos (by omega)).symm
theorem fnd_eq {s : zSh} (hs : okW s) {l w p : Int} (hl : 0 ≤ l ∧ l < s.2.2.2.1) : ∀ (m m' : Nat) (a k : Int) (y : zLy), bP s l w a y → y.2.2.2.2.2.2.1 = a → (0 ≤ k ∧ k ≤ p) → p + 1 - k ≤ m → s.2.1 (l + 1) - s.2.1 l - a < m' → ((p < prR s l w m' a k → (fndP s p m k 1 y).1 = 1 ∧ Req (fndP s p m k 1 y).2.1 (layE s l (itR s l w (p - k).toNat a) (edF s l w (itR s l w (p - k).toNat a)) (yB s l (itR s l w (p - k).toNat a))).1 ∧ Req (fndP s p m k 1 y).2.2.1 (layE s l (itR s l w (p - k).toNat a) (edF s l w (itR s l w (p - k).toNat a)) (yB s l (itR s l w (p - k).toNat a))).2.1) ∧ (¬ p < prR s l w m' a k → (fndP s p m k 1 y).1 = 0))
  | 0, m', a, k, y, hb, _, hk, h1, _ => absurd h1 (by omega)
  | m + 1, 0, a, k, y, hb, _, _, _, h1 => absurd h1 (by have := hb.2.2.2.2.1; omega)
  | m + 1, m' + 1, a, k, y, hb, hen, hk, h1, h2 => by
    have b5 := hb.2.2.2.2.1
    rw [fndP, if_neg (show ¬ ((1 : Int) = 0 ∨ p < k) by omega), prR, layG_1 hb.2.1, hen]
    by_cases hlt : a < s.2.1 (l + 1) - s.2.1 l
    · rw [if_neg (show ¬ s.2.1 (l + 1) - s.2.1 l ≤ a by omega), if_pos hlt]
      have hN := layN_E hs hl hb (by omega)
      have hb2 := edF_b (s := s) (l := l) (w := w) (a := a) b5
      by_cases hkp : k = p
      · have e0 : (p - k).toNat = 0 := by omega
        have e1 : fndP s p m (k + 1) 1 (layN s y) = (1, layN s y) := by
          cases m with
          | zero => rfl
          | succ m => rw [fndP, if_pos (Or.inr (by omega))]
        have hpr := prR_b s l w m' (edF s l w a) (k + 1)
        rw [e1, e0]
        exact ⟨fun _ => ⟨rfl, hN.2.1, hN.2.2.1⟩, fun h => absurd h (by omega)⟩
      · have e0 : (p - k).toNat = (p - (k + 1)).toNat + 1 := by omega
        rw [e0]
        exact fnd_eq hs hl m m' _ _ _ hN.1 hN.2.2.2 (by omega) (by omega) (by omega)
    · rw [if_pos (show s.2.1 (l + 1) - s.2.1 l ≤ a by omega), if_neg hlt]
      have e1 : (fndP s p m (k + 1) 0 (layN s y)).1 = 0 := by
        cases m with
        | zero => rfl
        | succ m => rw [fndP, if_pos (Or.inl rfl)]
      exact ⟨fun h => absurd h (by omega), fun _ => e1⟩
theorem fnd_0 {s : zSh} (hs : okW s) {l w p : Int} {y : zLy} (hl : 0 ≤ l ∧ l < s.2.2.2.1) (hq : okQ y) (hw : zin w) (hp : 0 ≤ p ∧ p ≤ 200) : (p < prF s l w → (fndP s p 201 0 1 (staL s y l w)).1 = 1 ∧ Req (fndP s p 201 0 1 (staL s y l w)).2.1 (layE s l (itR s l w p.toNat 0) (edF s l w (itR s l w p.toNat 0)) (yB s l (itR s l w p.toNat 0))).1 ∧ Req (fndP s p 201 0 1 (staL s y l w)).2.2.1 (layE s l (itR s l w p.toNat 0) (edF s l w (itR s l w p.toNat 0)) (yB s l (itR s l w p.toNat 0))).2.1) ∧ (¬ p < prF s l w → (fndP s p 201 0 1 (staL s y l w)).1 = 0) := by
  have hb := staL_b hs hl hq hw
  have hD := hs.1.1
  have z1 := hD.1
  have t1 := hD.2.2.1 l (by omega) (by omega)
  have t2 := hD.2.2.1 (l + 1) (by omega) (by omega)
  have b5 := hb.2.2.2.2.1
  have hN := layN_E hs hl hb (show (-1 : Int) < _ by omega)
  have hb2 := edF_b (s := s) (l := l) (w := w) (a := 0) b5
  have hg : layG s (staL s y l w) = 1 := by
    rw [layG_1 (l := l) rfl]
    exact if_neg (show ¬ s.2.1 (l + 1) - s.2.1 l ≤ (-1 : Int) by omega)
  have hpr : prF s l w = prR s l w 200 (edF s l w 0) (0 + 1) := by
    unfold prF
    by_cases h0 : s.2.1 (l + 1) - s.2.1 l = 0
    · rw [if_pos h0, prR_end (k := edF s l w 0) (by omega), prR_end (k := 0) (by omega)]
      rfl
    · rw [if_neg h0, prR.eq_def s l w 201 0 0]
      exact if_pos (by omega)
  rw [fndP, if_neg (show ¬ ((1 : Int) = 0 ∨ p < 0) by omega), hg, hpr]
  by_cases hkp : p = 0
  · have e1 : fndP s p 200 (0 + 1) 1 (layN s (staL s y l w)) = (1, layN s (staL s y l w)) := by
      rw [fndP, if_pos (Or.inr (by omega))]
    have hpb := prR_b s l w 200 (edF s l w 0) (0 + 1)
    rw [e1, hkp]
    exact ⟨fun _ => ⟨rfl, hN.2.1, hN.2.2.1⟩, fun h => absurd h (by omega)⟩
  · have h := fnd_eq hs hl (p := p) 200 200 (edF s l w 0) (0 + 1) (layN s (staL s y l w)) hN.1 hN.2.2.2 (by omega) (by omega) (by omega)
    have e0 : p.toNat = (p - (0 + 1)).toNat + 1 := by omega
    rw [e0]
    exact h
theorem cntQ {s : zSh} (hs : okN s) (hc : s.2.2.2.2.1 ≤ 40) (hT : ∀ k : Int, 0 ≤ k → k ≤ 201 → 0 ≤ s.2.1 k ∧ s.2.1 k ≤ 200) : ∀ (m : Nat) (n : Int) (y : zLy), okP s y → okQ (cntP s m n y).2
  | 0, _, y, h => ⟨h.1, h.2.1, h.2.2.1, h.2.2.2.1⟩
  | m + 1, n, y, h => by
    have h4 := layN_P hs hc hT h
    rw [cntP]
    split
    · exact ⟨h.1, h.2.1, h.2.2.1, h.2.2.2.1⟩
    · split
      · exact ⟨h4.1, h4.2.1, h4.2.2.1, h4.2.2.2.1⟩
      · exact cntQ hs hc hT m _ _ h4
theorem prF_201 {s : zSh} (hs : okW s) {l w : Int} (hl : 0 ≤ l ∧ l < s.2.2.2.1) : prF s l w ≤ 201 := by
  have hD := hs.1.1
  have t3 := hs.2.2.1 l (by omega) (by omega)
  unfold prF
  by_cases h0 : s.2.1 (l + 1) - s.2.1 l = 0
  · rw [if_pos h0, prR, if_neg (by omega)]; decide
  · rw [if_neg h0]
    have := prR_b s l w 201 0 0
    omega
