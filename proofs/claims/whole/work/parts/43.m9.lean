/-! the reference: chords put in and taken out -/
theorem opR_e : ∀ (m : Nat) (k : Int) (f : Int → Int), opR m k f = fun j => if k - m < j ∧ j ≤ k then f (j - 5) else f j
  | 0, k, f => by
    funext j
    rw [if_neg (by omega)]
    rfl
  | m + 1, k, f => by
    rw [opR, opR_e m (k - 1)]
    funext j
    show (if k - 1 - m < j ∧ j ≤ k - 1 then (if j - 5 = k then f (k - 5) else f (j - 5)) else (if j = k then f (k - 5) else f j)) = _
    by_cases h1 : k - 1 - m < j ∧ j ≤ k - 1
    · rw [if_pos h1, if_neg (by omega), if_pos (by omega)]
    · rw [if_neg h1]
      by_cases h2 : j = k
      · rw [if_pos h2, if_pos (by omega), h2]
      · rw [if_neg h2, if_neg (by omega)]
theorem clR_e : ∀ (m : Nat) (k : Int) (f : Int → Int), clR m k f = fun j => if k ≤ j ∧ j < k + m then f (j + 5) else f j
  | 0, k, f => by
    funext j
    rw [if_neg (by omega)]
    rfl
  | m + 1, k, f => by
    rw [clR, clR_e m (k + 1)]
    funext j
    show (if k + 1 ≤ j ∧ j < k + 1 + m then (if j + 5 = k then f (k + 5) else f (j + 5)) else (if j = k then f (k + 5) else f j)) = _
    by_cases h1 : k + 1 ≤ j ∧ j < k + 1 + m
    · rw [if_pos h1, if_neg (by omega), if_pos (by omega)]
    · rw [if_neg h1]
      by_cases h2 : j = k
      · rw [if_pos h2, if_pos (by omega), h2]
      · rw [if_neg h2, if_neg (by omega)]
theorem clZ_e (c : Int) : ∀ (m : Nat) (k : Int) (f : Int → Int), clZ c m k f = fun j => if 210 + 5 * c + k ≤ j ∧ j < 210 + 5 * c + k + m then 0 else f j
  | 0, k, f => by
    funext j
    rw [if_neg (by omega)]
    rfl
  | m + 1, k, f => by
    rw [clZ, clZ_e c m (k + 1)]
    funext j
    show (if 210 + 5 * c + (k + 1) ≤ j ∧ j < 210 + 5 * c + (k + 1) + m then 0 else (if j = 210 + 5 * c + k then 0 else f j)) = _
    by_cases h1 : 210 + 5 * c + (k + 1) ≤ j ∧ j < 210 + 5 * c + (k + 1) + m
    · rw [if_pos h1, if_pos (by omega)]
    · rw [if_neg h1]
      by_cases h2 : j = 210 + 5 * c + k
      · rw [if_pos h2, if_pos (by omega)]
      · rw [if_neg h2, if_neg (by omega)]
def cloV (v : Int → Int) (i c : Int) : Int → Int := clZ (c - 1) 5 0 (clR (5 * (c - 1 - i)).toNat (210 + 5 * i) (zup v 1 (c - 1)))
theorem cloV_e {v : Int → Int} {i c : Int} (hi : 0 ≤ i ∧ i < c) (j : Int) : cloV v i c j = if 210 + 5 * (c - 1) ≤ j ∧ j < 210 + 5 * c then 0 else if 210 + 5 * i ≤ j ∧ j < 210 + 5 * (c - 1) then v (j + 5) else if j = 1 then c - 1 else v j := by
  unfold cloV
  rw [clZ_e, clR_e]
  show (if _ then (0 : Int) else if _ then (if j + 5 = 1 then c - 1 else v (j + 5)) else (if j = 1 then c - 1 else v j)) = _
  by_cases h1 : 210 + 5 * (c - 1) ≤ j ∧ j < 210 + 5 * c
  · rw [if_pos h1, if_pos (by omega)]
  · rw [if_neg h1, if_neg (by omega)]
    by_cases h2 : 210 + 5 * i ≤ j ∧ j < 210 + 5 * (c - 1)
    · rw [if_pos h2, if_pos (by omega), if_neg (by omega)]
    · rw [if_neg h2, if_neg (by omega)]
theorem outF_e (F : Int → Int) (i c j : Int) : outF F i c j = if i * 5 ≤ j ∧ j < (c - 1) * 5 then F (j + 5) else F j := by
  unfold outF zcpy
  by_cases h : i * 5 ≤ j ∧ j < (c - 1) * 5
  · rw [if_pos h, if_pos (by omega), show (i + 1) * 5 + (j - i * 5) = j + 5 by omega]
  · rw [if_neg h, if_neg (by omega)]
abbrev sO (s : zSh) (i : Int) : zSh := (s.1, s.2.1, outF s.2.2.1 i s.2.2.2.2.1, s.2.2.2.1, s.2.2.2.2.1 - 1, s.2.2.2.2.2.1, s.2.2.2.2.2.2)
theorem Vr_out {s : zSh} {v : Int → Int} (h : Vr s v) {i : Int} (hi : 0 ≤ i ∧ i < s.2.2.2.2.1) (hc : s.2.2.2.2.1 ≤ 40) (hlc : s.2.2.2.1 ≤ 201) : Vr (sO s i) (cloV v i s.2.2.2.2.1) := by
  obtain ⟨h0, h1, h2, h3, hT, hF, hL⟩ := h
  refine ⟨?_, ?_, ?_, ?_, ?_, ?_, ?_⟩
  · rw [cloV_e hi, if_neg (by omega), if_neg (by omega), if_neg (by omega)]; exact h0
  · rw [cloV_e hi, if_neg (by omega), if_neg (by omega), if_pos rfl]
  · rw [cloV_e hi, if_neg (by omega), if_neg (by omega), if_neg (by omega)]; exact h2
  · rw [cloV_e hi, if_neg (by omega), if_neg (by omega), if_neg (by omega)]; exact h3
  · intro k k0 k1
    have k1 : k ≤ s.2.2.2.1 := k1
    rw [cloV_e hi, if_neg (by omega), if_neg (by omega), if_neg (by omega)]; exact hT k k0 k1
  · intro t t0 t1
    have t1 : t < 5 * (s.2.2.2.2.1 - 1) := t1
    show _ = outF s.2.2.1 i s.2.2.2.2.1 t
    rw [cloV_e hi, outF_e, if_neg (by omega)]
    by_cases h9 : i * 5 ≤ t ∧ t < (s.2.2.2.2.1 - 1) * 5
    · rw [if_pos h9, if_pos (by omega), show 210 + t + 5 = 210 + (t + 5) by omega]; exact hF _ (by omega) (by omega)
    · rw [if_neg h9, if_neg (by omega), if_neg (by omega)]; exact hF t t0 (by omega)
  · intro j j0 j1
    rw [cloV_e hi, if_neg (by omega), if_neg (by omega), if_neg (by omega)]; exact hL j j0 j1
theorem outF_at (F : Int → Int) {i c j f : Int} (hj : 0 ≤ j ∧ j < c - 1) (hf : 0 ≤ f ∧ f < 5) : outF F i c (j * 5 + f) = F ((if j < i then j else j + 1) * 5 + f) := by
  rw [outF_e]
  by_cases h : j < i
  · rw [if_pos h, if_neg (by omega)]
  · rw [if_neg h, if_pos (by omega), show j * 5 + f + 5 = (j + 1) * 5 + f by omega]
theorem okW_out {s : zSh} (h : okW s) {i : Int} (hi : 0 ≤ i ∧ i < s.2.2.2.2.1) : okW (sO s i) := by
  obtain ⟨⟨hD, hn, hg, hm, hl⟩, g0, gT, gC, gS⟩ := h
  have hc := hD.2.2.2.1
  have hk : ∀ j : Int, 0 ≤ j → j < s.2.2.2.2.1 - 1 → 0 ≤ (if j < i then j else j + 1) ∧ (if j < i then j else j + 1) < s.2.2.2.2.1 := by
    intro j j0 j1
    split <;> omega
  refine ⟨⟨⟨hD.1, hD.2.1, hD.2.2.1, ⟨by show 0 ≤ s.2.2.2.2.1 - 1; omega, by show s.2.2.2.2.1 - 1 ≤ 40; omega⟩, outF_b hD.2.2.2.2.1 hi hc.2, hD.2.2.2.2.2⟩, ?_, hg, hm, ?_⟩, g0, gT, ?_, ?_⟩
  · intro j j0 j1
    have j1 : j < s.2.2.2.2.1 - 1 := j1
    have h2 := hn _ (hk j j0 j1).1 (hk j j0 j1).2
    show (-9 ≤ outF s.2.2.1 i s.2.2.2.2.1 (j * 5 + 2) ∧ outF s.2.2.1 i s.2.2.2.2.1 (j * 5 + 2) ≤ 14) ∧ (0 ≤ outF s.2.2.1 i s.2.2.2.2.1 (j * 5 + 3) ∧ outF s.2.2.1 i s.2.2.2.2.1 (j * 5 + 3) < 10) ∧ (outF s.2.2.1 i s.2.2.2.2.1 (j * 5 + 4) = 100 ∨ (-9 ≤ outF s.2.2.1 i s.2.2.2.2.1 (j * 5 + 4) ∧ outF s.2.2.1 i s.2.2.2.2.1 (j * 5 + 4) ≤ 14))
    rw [outF_at _ ⟨j0, j1⟩ (by omega), outF_at _ ⟨j0, j1⟩ (by omega), outF_at _ ⟨j0, j1⟩ (by omega)]
    exact h2
  · intro j j0 j1
    have j1 : j < s.2.2.2.2.1 - 1 := j1
    have h2 := hl _ (hk j j0 j1).1 (hk j j0 j1).2
    show 0 ≤ outF s.2.2.1 i s.2.2.2.2.1 (j * 5 + 0) ∧ outF s.2.2.1 i s.2.2.2.2.1 (j * 5 + 0) < _
    rw [outF_at _ ⟨j0, j1⟩ (by omega)]
    exact h2
  · intro j j0 j1
    have j1 : j < s.2.2.2.2.1 - 1 := j1
    have h2 := gC _ (hk j j0 j1).1 (hk j j0 j1).2
    show 0 ≤ outF s.2.2.1 i s.2.2.2.2.1 (j * 5 + 1) ∧ outF s.2.2.1 i s.2.2.2.2.1 (j * 5 + 1) ≤ s.2.1 (outF s.2.2.1 i s.2.2.2.2.1 (j * 5 + 0) + 1) - s.2.1 (outF s.2.2.1 i s.2.2.2.2.1 (j * 5 + 0))
    rw [outF_at _ ⟨j0, j1⟩ (by omega), outF_at _ ⟨j0, j1⟩ (by omega)]
    exact h2
  · intro a b a0 ab b1
    have b1 : b < s.2.2.2.2.1 - 1 := b1
    have h2 := gS (if a < i then a else a + 1) (if b < i then b else b + 1) (hk a a0 (by omega)).1 (by split <;> split <;> omega) (hk b (by omega) b1).2
    show outF s.2.2.1 i s.2.2.2.2.1 (a * 5 + 0) < outF s.2.2.1 i s.2.2.2.2.1 (b * 5 + 0) ∨ (outF s.2.2.1 i s.2.2.2.2.1 (a * 5 + 0) = outF s.2.2.1 i s.2.2.2.2.1 (b * 5 + 0) ∧ outF s.2.2.1 i s.2.2.2.2.1 (a * 5 + 1) ≤ outF s.2.2.1 i s.2.2.2.2.1 (b * 5 + 1))
    rw [outF_at _ ⟨a0, by omega⟩ (by omega), outF_at _ ⟨by omega, b1⟩ (by omega), outF_at _ ⟨a0, by omega⟩ (by omega), outF_at _ ⟨by omega, b1⟩ (by omega)]
    exact h2
/-- a place opened and filled -/
def insV (v : Int → Int) (i c l k r q b : Int) : Int → Int := zup (zup (zup (zup (zup (zup (opR (5 * (c - i)).toNat (210 + 5 * c + 5 - 1) v) 1 ((opR (5 * (c - i)).toNat (210 + 5 * c + 5 - 1) v) 1 + 1)) (210 + 5 * i + 0) l) (210 + 5 * i + 1) k) (210 + 5 * i + 2) r) (210 + 5 * i + 3) q) (210 + 5 * i + 4) b
theorem insV_e {v : Int → Int} {i c l k r q b : Int} (hi : 0 ≤ i ∧ i ≤ c) (j : Int) : insV v i c l k r q b j = if j = 210 + 5 * i + 4 then b else if j = 210 + 5 * i + 3 then q else if j = 210 + 5 * i + 2 then r else if j = 210 + 5 * i + 1 then k else if j = 210 + 5 * i + 0 then l else if j = 1 then v 1 + 1 else if 215 + 5 * i ≤ j ∧ j < 215 + 5 * c then v (j - 5) else v j := by
  unfold insV
  rw [opR_e]
  show (if j = 210 + 5 * i + 4 then b else if j = 210 + 5 * i + 3 then q else if j = 210 + 5 * i + 2 then r else if j = 210 + 5 * i + 1 then k else if j = 210 + 5 * i + 0 then l else if j = 1 then (if _ then _ else v 1) + 1 else if _ then v (j - 5) else v j) = _
  rw [if_neg (show ¬ (210 + 5 * c + 5 - 1 - (((5 * (c - i)).toNat : Nat) : Int) < 1 ∧ (1 : Int) ≤ 210 + 5 * c + 5 - 1) by omega)]
  by_cases h : 215 + 5 * i ≤ j ∧ j < 215 + 5 * c
  · rw [if_pos h, if_pos (show 210 + 5 * c + 5 - 1 - (((5 * (c - i)).toNat : Nat) : Int) < j ∧ j ≤ 210 + 5 * c + 5 - 1 by omega)]
  · rw [if_neg h, if_neg (show ¬ (210 + 5 * c + 5 - 1 - (((5 * (c - i)).toNat : Nat) : Int) < j ∧ j ≤ 210 + 5 * c + 5 - 1) by omega)]
theorem insF_e (F : Int → Int) (i c l k r q b j : Int) : insF F i c l k r q b j = if j = i * 5 + 4 then b else if j = i * 5 + 3 then q else if j = i * 5 + 2 then r else if j = i * 5 + 1 then k else if j = i * 5 + 0 then l else if (i + 1) * 5 ≤ j ∧ j < (c + 1) * 5 then F (j - 5) else F j := by
  unfold insF putF zcpy
  show (if j = i * 5 + 4 then b else if j = i * 5 + 3 then q else if j = i * 5 + 2 then r else if j = i * 5 + 1 then k else if j = i * 5 + 0 then l else if _ then F (i * 5 + (j - (i + 1) * 5)) else F j) = _
  by_cases h : (i + 1) * 5 ≤ j ∧ j < (c + 1) * 5
  · rw [if_pos h, if_pos (show (i + 1) * 5 ≤ j ∧ j < (i + 1) * 5 + (c - i) * 5 by omega), show i * 5 + (j - (i + 1) * 5) = j - 5 by omega]
  · rw [if_neg h, if_neg (show ¬ ((i + 1) * 5 ≤ j ∧ j < (i + 1) * 5 + (c - i) * 5) by omega)]
abbrev sI (s : zSh) (i l k r q b : Int) : zSh := (s.1, s.2.1, insF s.2.2.1 i s.2.2.2.2.1 l k r q b, s.2.2.2.1, s.2.2.2.2.1 + 1, s.2.2.2.2.2.1, s.2.2.2.2.2.2)
theorem Vr_ins {s : zSh} {v : Int → Int} (h : Vr s v) {i l k r q b : Int} (hi : 0 ≤ i ∧ i ≤ s.2.2.2.2.1) (hc : s.2.2.2.2.1 < 40) (hlc : s.2.2.2.1 ≤ 201) : Vr (sI s i l k r q b) (insV v i s.2.2.2.2.1 l k r q b) := by
  obtain ⟨h0, h1, h2, h3, hT, hF, hL⟩ := h
  refine ⟨?_, ?_, ?_, ?_, ?_, ?_, ?_⟩
  · rw [insV_e hi, if_neg (by omega), if_neg (by omega), if_neg (by omega), if_neg (by omega), if_neg (by omega), if_neg (by omega), if_neg (by omega)]; exact h0
  · rw [insV_e hi, if_neg (by omega), if_neg (by omega), if_neg (by omega), if_neg (by omega), if_neg (by omega), if_pos rfl, h1]
  · rw [insV_e hi, if_neg (by omega), if_neg (by omega), if_neg (by omega), if_neg (by omega), if_neg (by omega), if_neg (by omega), if_neg (by omega)]; exact h2
  · rw [insV_e hi, if_neg (by omega), if_neg (by omega), if_neg (by omega), if_neg (by omega), if_neg (by omega), if_neg (by omega), if_neg (by omega)]; exact h3
  · intro k k0 k1
    have k1 : k ≤ s.2.2.2.1 := k1
    rw [insV_e hi, if_neg (by omega), if_neg (by omega), if_neg (by omega), if_neg (by omega), if_neg (by omega), if_neg (by omega), if_neg (by omega)]; exact hT k k0 k1
  · intro t t0 t1
    have t1 : t < 5 * (s.2.2.2.2.1 + 1) := t1
    show _ = insF s.2.2.1 i s.2.2.2.2.1 l k r q b t
    rw [insV_e hi, insF_e]
    by_cases e4 : t = i * 5 + 4
    · rw [if_pos e4, if_pos (by omega)]
    rw [if_neg e4, if_neg (by omega)]
    by_cases e3 : t = i * 5 + 3
    · rw [if_pos e3, if_pos (by omega)]
    rw [if_neg e3, if_neg (by omega)]
    by_cases e2 : t = i * 5 + 2
    · rw [if_pos e2, if_pos (by omega)]
    rw [if_neg e2, if_neg (by omega)]
    by_cases e1 : t = i * 5 + 1
    · rw [if_pos e1, if_pos (by omega)]
    rw [if_neg e1, if_neg (by omega)]
    by_cases e0 : t = i * 5 + 0
    · rw [if_pos e0, if_pos (by omega)]
    rw [if_neg e0, if_neg (by omega), if_neg (by omega)]
    by_cases h9 : (i + 1) * 5 ≤ t ∧ t < (s.2.2.2.2.1 + 1) * 5
    · rw [if_pos h9, if_pos (by omega), show 210 + t - 5 = 210 + (t - 5) by omega]; exact hF _ (by omega) (by omega)
    · rw [if_neg h9, if_neg (by omega)]; exact hF t t0 (by omega)
  · intro j j0 j1
    have j1 : j < s.2.1 s.2.2.2.1 := j1
    rw [insV_e hi, if_neg (by omega), if_neg (by omega), if_neg (by omega), if_neg (by omega), if_neg (by omega), if_neg (by omega), if_neg (by omega)]; exact hL j j0 j1
theorem cUT_up (F : Int → Int) (l k : Int) : ∀ (n : Nat) (i j : Int), i ≤ j → j < cUT F l k n i → (F (j * 5 + 0) < l ∨ (F (j * 5 + 0) = l ∧ F (j * 5 + 1) ≤ k))
  | 0, i, j, h1, h2 => by rw [cUT] at h2; omega
  | n + 1, i, j, h1, h2 => by
    rw [cUT] at h2
    split at h2
    · rename_i h3
      by_cases h4 : j = i
      · rw [h4]; exact h3
      · exact cUT_up F l k n (i + 1) j (by omega) h2
    · omega
theorem cUT_no (F : Int → Int) (l k : Int) : ∀ (n : Nat) (i : Int), cUT F l k n i < i + n → ¬ (F (cUT F l k n i * 5 + 0) < l ∨ (F (cUT F l k n i * 5 + 0) = l ∧ F (cUT F l k n i * 5 + 1) ≤ k))
  | 0, i, h => by rw [cUT] at h; omega
  | n + 1, i, h => by
    rw [cUT] at h ⊢
    split
    · rename_i h3
      rw [if_pos h3] at h
      exact cUT_no F l k n (i + 1) (by omega)
    · rename_i h3
      exact h3
theorem insF_at (F : Int → Int) {i c j l k r q b : Int} (hj : 0 ≤ j ∧ j ≤ c) (h : ¬ j = i) {f : Int} (hf : 0 ≤ f ∧ f < 5) : insF F i c l k r q b (j * 5 + f) = F ((if j < i then j else j - 1) * 5 + f) := by
  rw [insF_e, if_neg (by omega), if_neg (by omega), if_neg (by omega), if_neg (by omega), if_neg (by omega)]
  by_cases h2 : j < i
  · rw [if_pos h2, if_neg (by omega)]
  · rw [if_neg h2, if_pos (by omega), show j * 5 + f - 5 = (j - 1) * 5 + f by omega]
theorem insF_0 (F : Int → Int) (i c l k r q b : Int) : insF F i c l k r q b (i * 5 + 0) = l := by
  rw [insF_e, if_neg (by omega), if_neg (by omega), if_neg (by omega), if_neg (by omega), if_pos rfl]
theorem insF_1 (F : Int → Int) (i c l k r q b : Int) : insF F i c l k r q b (i * 5 + 1) = k := by
  rw [insF_e, if_neg (by omega), if_neg (by omega), if_neg (by omega), if_pos rfl]
theorem insF_2 (F : Int → Int) (i c l k r q b : Int) : insF F i c l k r q b (i * 5 + 2) = r := by
  rw [insF_e, if_neg (by omega), if_neg (by omega), if_pos rfl]
theorem insF_3 (F : Int → Int) (i c l k r q b : Int) : insF F i c l k r q b (i * 5 + 3) = q := by
  rw [insF_e, if_neg (by omega), if_pos rfl]
theorem insF_4 (F : Int → Int) (i c l k r q b : Int) : insF F i c l k r q b (i * 5 + 4) = b := by
  rw [insF_e, if_pos rfl]
theorem okW_ins {s : zSh} (h : okW s) {l k r q b : Int} (hc : s.2.2.2.2.1 < 40) (hl9 : 0 ≤ l ∧ l < s.2.2.2.1) (hk9 : 0 ≤ k ∧ k ≤ s.2.1 (l + 1) - s.2.1 l) (hr : -9 ≤ r ∧ r ≤ 14) (hq : 0 ≤ q ∧ q < 10) (hb : b = 100 ∨ (-9 ≤ b ∧ b ≤ 14)) : okW (sI s (cUT s.2.2.1 l k s.2.2.2.2.1.toNat 0) l k r q b) := by
  obtain ⟨⟨hD, hn, hg, hm, hl⟩, g0, gT, gC, gS⟩ := h
  have c0 := hD.2.2.2.1
  have l0 := hD.1
  have t0 := hD.2.2.1 l (by omega) (by omega)
  have t1 := hD.2.2.1 (l + 1) (by omega) (by omega)
  have hu := cUT_le s.2.2.1 l k s.2.2.2.2.1.toNat 0
  have hup := cUT_up s.2.2.1 l k s.2.2.2.2.1.toNat 0
  have hno := cUT_no s.2.2.1 l k s.2.2.2.2.1.toNat 0
  generalize cUT s.2.2.1 l k s.2.2.2.2.1.toNat 0 = i at hu hup hno ⊢
  have hno2 : ∀ j : Int, i ≤ j → j < s.2.2.2.2.1 → ¬ (s.2.2.1 (j * 5 + 0) < l ∨ (s.2.2.1 (j * 5 + 0) = l ∧ s.2.2.1 (j * 5 + 1) ≤ k)) := by
    intro j j0 j1
    have h1 := hno (by omega)
    by_cases h2 : j = i
    · rw [h2]; exact h1
    · have h3 := gS i j (by omega) (by omega) j1
      omega
  have hix : ∀ j : Int, 0 ≤ j → j < s.2.2.2.2.1 + 1 → ¬ j = i → 0 ≤ (if j < i then j else j - 1) ∧ (if j < i then j else j - 1) < s.2.2.2.2.1 := by
    intro j j0 j1 j2
    split <;> omega
  refine ⟨⟨⟨hD.1, hD.2.1, hD.2.2.1, ⟨by show 0 ≤ s.2.2.2.2.1 + 1; omega, by show s.2.2.2.2.1 + 1 ≤ 40; omega⟩, insF_b hD.2.2.2.2.1 (by omega) hc (by omega) (by omega) (by omega) (by omega) (by omega), hD.2.2.2.2.2⟩, ?_, hg, hm, ?_⟩, g0, gT, ?_, ?_⟩
  · intro j j0 j1
    have j1 : j < s.2.2.2.2.1 + 1 := j1
    show (-9 ≤ insF s.2.2.1 i s.2.2.2.2.1 l k r q b (j * 5 + 2) ∧ insF s.2.2.1 i s.2.2.2.2.1 l k r q b (j * 5 + 2) ≤ 14) ∧ (0 ≤ insF s.2.2.1 i s.2.2.2.2.1 l k r q b (j * 5 + 3) ∧ insF s.2.2.1 i s.2.2.2.2.1 l k r q b (j * 5 + 3) < 10) ∧ (insF s.2.2.1 i s.2.2.2.2.1 l k r q b (j * 5 + 4) = 100 ∨ (-9 ≤ insF s.2.2.1 i s.2.2.2.2.1 l k r q b (j * 5 + 4) ∧ insF s.2.2.1 i s.2.2.2.2.1 l k r q b (j * 5 + 4) ≤ 14))
    by_cases j2 : j = i
    · rw [j2, insF_2, insF_3, insF_4]
      exact ⟨hr, hq, hb⟩
    · rw [insF_at _ ⟨j0, by omega⟩ j2 (by omega), insF_at _ ⟨j0, by omega⟩ j2 (by omega), insF_at _ ⟨j0, by omega⟩ j2 (by omega)]
      exact hn _ (hix j j0 j1 j2).1 (hix j j0 j1 j2).2
  · intro j j0 j1
    have j1 : j < s.2.2.2.2.1 + 1 := j1
    show 0 ≤ insF s.2.2.1 i s.2.2.2.2.1 l k r q b (j * 5 + 0) ∧ insF s.2.2.1 i s.2.2.2.2.1 l k r q b (j * 5 + 0) < _
    by_cases j2 : j = i
    · rw [j2, insF_0]; exact hl9
    · rw [insF_at _ ⟨j0, by omega⟩ j2 (by omega)]
      exact hl _ (hix j j0 j1 j2).1 (hix j j0 j1 j2).2
  · intro j j0 j1
    have j1 : j < s.2.2.2.2.1 + 1 := j1
    show 0 ≤ insF s.2.2.1 i s.2.2.2.2.1 l k r q b (j * 5 + 1) ∧ insF s.2.2.1 i s.2.2.2.2.1 l k r q b (j * 5 + 1) ≤ s.2.1 (insF s.2.2.1 i s.2.2.2.2.1 l k r q b (j * 5 + 0) + 1) - s.2.1 (insF s.2.2.1 i s.2.2.2.2.1 l k r q b (j * 5 + 0))
    by_cases j2 : j = i
    · rw [j2, insF_0, insF_1]; exact hk9
    · rw [insF_at _ ⟨j0, by omega⟩ j2 (by omega), insF_at _ ⟨j0, by omega⟩ j2 (by omega)]
      exact gC _ (hix j j0 j1 j2).1 (hix j j0 j1 j2).2
  · intro x y x0 xy y1
    have y1 : y < s.2.2.2.2.1 + 1 := y1
    show insF s.2.2.1 i s.2.2.2.2.1 l k r q b (x * 5 + 0) < insF s.2.2.1 i s.2.2.2.2.1 l k r q b (y * 5 + 0) ∨ (insF s.2.2.1 i s.2.2.2.2.1 l k r q b (x * 5 + 0) = insF s.2.2.1 i s.2.2.2.2.1 l k r q b (y * 5 + 0) ∧ insF s.2.2.1 i s.2.2.2.2.1 l k r q b (x * 5 + 1) ≤ insF s.2.2.1 i s.2.2.2.2.1 l k r q b (y * 5 + 1))
    by_cases x2 : x = i
    · rw [x2, insF_0, insF_1, insF_at _ ⟨by omega, by omega⟩ (show ¬ y = i by omega) (by omega), insF_at _ ⟨by omega, by omega⟩ (show ¬ y = i by omega) (by omega), if_neg (show ¬ y < i by omega)]
      have := hno2 (y - 1) (by omega) (by omega)
      omega
    · by_cases y2 : y = i
      · rw [y2, insF_0, insF_1, insF_at _ ⟨by omega, by omega⟩ x2 (by omega), insF_at _ ⟨by omega, by omega⟩ x2 (by omega), if_pos (show x < i by omega)]
        exact hup x (by omega) (by omega)
      · rw [insF_at _ ⟨by omega, by omega⟩ x2 (by omega), insF_at _ ⟨by omega, by omega⟩ x2 (by omega), insF_at _ ⟨by omega, by omega⟩ y2 (by omega), insF_at _ ⟨by omega, by omega⟩ y2 (by omega)]
        exact gS _ _ (hix x x0 (by omega) x2).1 (by split <;> split <;> omega) (hix y (by omega) y1 y2).2
set_option maxRecDepth 10000 in
set_option maxHeartbeats 1000000 in
theorem k_X10_setChord0 (s : zSh) (t : zRw) (v pa : Int → Int) (sn : Int) (tx : Int → Int) (ty si fl wi th ap nt rr rq rb wh : Int) (md na : Int → Int) (nd : Int) (up lo : Int → Int) (us lw : Int) (i : Int) (hs : okW s) (hv : Vr s v) (ht : okT t) (hx : Tr t tx ty) (hi : zin i) (hc : ¬ (0 ≤ i ∧ i < s.2.2.2.2.1)) : zMet q_X10_setChord 4 0 0 [zR 0, zI i] (wM v pa sn tx ty si fl wi th ap nt rr rq rb wh md na nd up lo us lw) (zD (some (zI (0))) (wM v pa sn tx ty si fl wi 1 ap nt rr rq rb wh md na nd up lo us lw)) := by
  refine z_introF (ls := [(0, _), (1, _)]) (by decide +kernel) rfl (fun _ _ => rfl) (fun _ _ => Nat.le_of_ble_eq_true rfl) ?_
  obtain ⟨v0, v1, v2, v3, vT, vF, vL⟩ := id hv
  have hz := hs.1
  obtain ⟨z1, z2, zT1, z4, zF1, zL1⟩ := id hz.1
  have zNm := hz.2.1
  have zg := hz.2.2.1
  have zm := hz.2.2.2.1
  have zln := hz.2.2.2.2
  have vS := Vr_sg hv zm
  have zQ1 := fun i h1 h2 => (zNm i h1 h2).2.1
  obtain ⟨x0, x1⟩ := id hx
  obtain ⟨t1, t2, t3⟩ := id ht
  refine wa_aload_n (pc' := 1) dX10_setChord_0 rfl rfl rfl ?_
  refine wa_iconst (pc' := 2) dX10_setChord_1 rfl ?_
  refine wa_putfield (pc' := 5) (j := 8) (w' := [zO _ [_, _, _, _, _, _, _, _, _, _, _, _, _, _, _, _, _, _, _, _, _, _, _, _], _, _, _, _, _, _, _, _, _]) zc_X10 lk_X10_46 dX10_setChord_2 rfl (by decide) rfl rfl (Nat.le_of_ble_eq_true rfl) True.intro rfl ?_
  refine wa_aload_n (pc' := 6) dX10_setChord_5 rfl rfl rfl ?_
  refine wa_iload_n (pc' := 7) dX10_setChord_6 rfl rfl rfl ?_
  refine wa_rI2 (pc' := 10) (st := []) (k_X10_isChord s _ _ _ _ _ _ _ _ _ _ _ _ _ _ _ _ _ _ _ _ _ _ _ hs hv (by omega) ) ok_X10_isChord lm_X10_127 dX10_setChord_7 rfl (wM_ok _ _ _ _ _ _ _ _ _ _ _ _ _ _ _ _ _ _ _ _ _ _) rfl rfl (Nat.le_of_ble_eq_true rfl) rfl rfl rfl rfl (by decide) (Nat.le_of_ble_eq_true rfl) rfl (by decide) (by decide) rfl rfl ?_
  refine wa_if_ne (tgt := 19) (pc' := 13) dX10_setChord_10 (by decide) rfl (by split <;> omega) (fun c10 => ?_) (fun c10 => ?_)
  · exact absurd (ite1 c10) hc
  · refine wa_aload_n (pc' := 14) dX10_setChord_13 rfl rfl rfl ?_
    refine wa_iconst (pc' := 15) dX10_setChord_14 rfl ?_
    refine wa_iD2 (pc' := 18) (st := []) (k_X10_fails _ _ _ _ _ _ _ _ _ _ _ _ _ _ _ _ _ _ _ _ _ _ _ ) ok_X10_fails lm_X10_101 dX10_setChord_15 rfl (wM_ok _ _ _ _ _ _ _ _ _ _ _ _ _ _ _ _ _ _ _ _ _ _) (Eq.refl 10) (wM_ok _ _ _ _ _ _ _ _ _ _ _ _ _ _ _ _ _ _ _ _ _ _) rfl rfl (Nat.le_of_ble_eq_true rfl) rfl rfl rfl rfl (by decide) (Nat.le_of_ble_eq_true rfl) rfl (by decide) (by decide) rfl rfl ?_
    show Wa _ _ _ _ _ _ _ _ [_] _ _ _
    refine wa_iret dX10_setChord_18 rfl (by decide) (by decide) ?_
    first | (exfalso; omega) | exact zD_i rfl rfl

set_option maxRecDepth 10000 in
set_option maxHeartbeats 1000000 in
theorem k_X10_setChord1 (s : zSh) (t : zRw) (v pa : Int → Int) (sn : Int) (tx : Int → Int) (ty si fl wi th ap nt rr rq rb wh : Int) (md na : Int → Int) (nd : Int) (up lo : Int → Int) (us lw : Int) (i : Int) (hs : okW s) (hv : Vr s v) (ht : okT t) (hx : Tr t tx ty) (hc : 0 ≤ i ∧ i < s.2.2.2.2.1) (h9 : (mcR (gT t) (-1) 0 rr rq rb wh).1 = 0) : zMet q_X10_setChord 4 0 0 [zR 0, zI i] (wM v pa sn tx ty si fl wi th ap nt rr rq rb wh md na nd up lo us lw) (zD (some (zI (-1 - (mcR (gT t) (-1) 0 rr rq rb wh).2.1))) (wM v pa sn tx ty si fl wi 0 ((mcR (gT t) (-1) 0 rr rq rb wh).2.1) ((mcR (gT t) (-1) 0 rr rq rb wh).2.2.1) ((mcR (gT t) (-1) 0 rr rq rb wh).2.2.2.1) ((mcR (gT t) (-1) 0 rr rq rb wh).2.2.2.2.1) ((mcR (gT t) (-1) 0 rr rq rb wh).2.2.2.2.2.1) ((mcR (gT t) (-1) 0 rr rq rb wh).2.2.2.2.2.2) md na nd up lo us lw)) := by
  refine z_introF (ls := [(0, _), (1, _)]) (by decide +kernel) rfl (fun _ _ => rfl) (fun _ _ => Nat.le_of_ble_eq_true rfl) ?_
  obtain ⟨v0, v1, v2, v3, vT, vF, vL⟩ := id hv
  have hz := hs.1
  obtain ⟨z1, z2, zT1, z4, zF1, zL1⟩ := id hz.1
  have zNm := hz.2.1
  have zg := hz.2.2.1
  have zm := hz.2.2.2.1
  have zln := hz.2.2.2.2
  have vS := Vr_sg hv zm
  have zQ1 := fun i h1 h2 => (zNm i h1 h2).2.1
  obtain ⟨x0, x1⟩ := id hx
  obtain ⟨t1, t2, t3⟩ := id ht
  refine wa_aload_n (pc' := 1) dX10_setChord_0 rfl rfl rfl ?_
  refine wa_iconst (pc' := 2) dX10_setChord_1 rfl ?_
  refine wa_putfield (pc' := 5) (j := 8) (w' := [zO _ [_, _, _, _, _, _, _, _, _, _, _, _, _, _, _, _, _, _, _, _, _, _, _, _], _, _, _, _, _, _, _, _, _]) zc_X10 lk_X10_46 dX10_setChord_2 rfl (by decide) rfl rfl (Nat.le_of_ble_eq_true rfl) True.intro rfl ?_
  refine wa_aload_n (pc' := 6) dX10_setChord_5 rfl rfl rfl ?_
  refine wa_iload_n (pc' := 7) dX10_setChord_6 rfl rfl rfl ?_
  refine wa_rI2 (pc' := 10) (st := []) (k_X10_isChord s _ _ _ _ _ _ _ _ _ _ _ _ _ _ _ _ _ _ _ _ _ _ _ hs hv (by omega) ) ok_X10_isChord lm_X10_127 dX10_setChord_7 rfl (wM_ok _ _ _ _ _ _ _ _ _ _ _ _ _ _ _ _ _ _ _ _ _ _) rfl rfl (Nat.le_of_ble_eq_true rfl) rfl rfl rfl rfl (by decide) (Nat.le_of_ble_eq_true rfl) rfl (by decide) (by decide) rfl rfl ?_
  refine wa_if_ne (tgt := 19) (pc' := 13) dX10_setChord_10 (by decide) rfl (by split <;> omega) (fun c10 => ?_) (fun c10 => ?_)
  · refine wa_aload_n (pc' := 20) dX10_setChord_19 rfl rfl rfl ?_
    refine wa_iD2 (pc' := 23) (st := []) (k_X10_isText t _ _ _ _ _ _ _ _ _ _ _ _ _ _ _ _ _ _ _ _ _ _ ht hx) ok_X10_isText lm_X10_146 dX10_setChord_20 rfl (wM_ok _ _ _ _ _ _ _ _ _ _ _ _ _ _ _ _ _ _ _ _ _ _) (Eq.refl 10) (wM_ok _ _ _ _ _ _ _ _ _ _ _ _ _ _ _ _ _ _ _ _ _ _) rfl rfl (Nat.le_of_ble_eq_true rfl) rfl rfl rfl rfl (by decide) (Nat.le_of_ble_eq_true rfl) rfl (by decide) (by decide) rfl rfl ?_
    show Wa _ _ _ _ _ _ _ _ [_] _ _ _
    refine wa_if_ne (tgt := 33) (pc' := 26) dX10_setChord_23 (by decide) rfl (by have := mcR_01 (gT t) (-1) 0 rr rq rb wh; omega) (fun c23 => ?_) (fun c23 => ?_)
    · exact absurd h9 c23
    · refine wa_iconst (pc' := 27) dX10_setChord_26 rfl ?_
      refine wa_aload_n (pc' := 28) dX10_setChord_27 rfl rfl rfl ?_
      refine wa_getfield (pc' := 31) (j := 11) zc_X10 lk_X10_59 dX10_setChord_28 rfl (by decide) rfl rfl ?_
      refine wa_isub (pc' := 32) dX10_setChord_31 rfl ?_
      refine wa_iret dX10_setChord_32 rfl (by decide) (by decide) ?_
      first | (exfalso; omega) | exact zD_i rfl rfl
  · exact absurd hc (ite0 c10)

set_option maxRecDepth 10000 in
set_option maxHeartbeats 1000000 in
theorem k_X10_setChord2 (s : zSh) (t : zRw) (v pa : Int → Int) (sn : Int) (tx : Int → Int) (ty si fl wi th ap nt rr rq rb wh : Int) (md na : Int → Int) (nd : Int) (up lo : Int → Int) (us lw : Int) (i : Int) (hs : okW s) (hv : Vr s v) (ht : okT t) (hx : Tr t tx ty) (hsn : 0 ≤ sn ∧ sn ≤ 8) (hc : 0 ≤ i ∧ i < s.2.2.2.2.1) (h9 : ¬ (mcR (gT t) (-1) 0 rr rq rb wh).1 = 0) : zMet q_X10_setChord 4 0 0 [zR 0, zI i] (wM v pa sn tx ty si fl wi th ap nt rr rq rb wh md na nd up lo us lw) (zD (some (zI (0))) (wM (zup (zup (zup (v) (210 + 5 * i + 2) (mcR (gT t) (-1) 0 rr rq rb wh).2.2.2.1) (210 + 5 * i + 3) (mcR (gT t) (-1) 0 rr rq rb wh).2.2.2.2.1) (210 + 5 * i + 4) (mcR (gT t) (-1) 0 rr rq rb wh).2.2.2.2.2.1) (actP v sn pa) (if sn = 8 then 8 else sn + 1) tx 0 si fl wi 0 ((mcR (gT t) (-1) 0 rr rq rb wh).2.1) ((mcR (gT t) (-1) 0 rr rq rb wh).2.2.1) ((mcR (gT t) (-1) 0 rr rq rb wh).2.2.2.1) ((mcR (gT t) (-1) 0 rr rq rb wh).2.2.2.2.1) ((mcR (gT t) (-1) 0 rr rq rb wh).2.2.2.2.2.1) ((mcR (gT t) (-1) 0 rr rq rb wh).2.2.2.2.2.2) md na nd up lo us lw)) := by
  refine z_introF (ls := [(0, _), (1, _)]) (by decide +kernel) rfl (fun _ _ => rfl) (fun _ _ => Nat.le_of_ble_eq_true rfl) ?_
  obtain ⟨v0, v1, v2, v3, vT, vF, vL⟩ := id hv
  have hz := hs.1
  obtain ⟨z1, z2, zT1, z4, zF1, zL1⟩ := id hz.1
  have zNm := hz.2.1
  have zg := hz.2.2.1
  have zm := hz.2.2.2.1
  have zln := hz.2.2.2.2
  have vS := Vr_sg hv zm
  have zQ1 := fun i h1 h2 => (zNm i h1 h2).2.1
  obtain ⟨x0, x1⟩ := id hx
  obtain ⟨t1, t2, t3⟩ := id ht
  refine wa_aload_n (pc' := 1) dX10_setChord_0 rfl rfl rfl ?_
  refine wa_iconst (pc' := 2) dX10_setChord_1 rfl ?_
  refine wa_putfield (pc' := 5) (j := 8) (w' := [zO _ [_, _, _, _, _, _, _, _, _, _, _, _, _, _, _, _, _, _, _, _, _, _, _, _], _, _, _, _, _, _, _, _, _]) zc_X10 lk_X10_46 dX10_setChord_2 rfl (by decide) rfl rfl (Nat.le_of_ble_eq_true rfl) True.intro rfl ?_
  refine wa_aload_n (pc' := 6) dX10_setChord_5 rfl rfl rfl ?_
  refine wa_iload_n (pc' := 7) dX10_setChord_6 rfl rfl rfl ?_
  refine wa_rI2 (pc' := 10) (st := []) (k_X10_isChord s _ _ _ _ _ _ _ _ _ _ _ _ _ _ _ _ _ _ _ _ _ _ _ hs hv (by omega) ) ok_X10_isChord lm_X10_127 dX10_setChord_7 rfl (wM_ok _ _ _ _ _ _ _ _ _ _ _ _ _ _ _ _ _ _ _ _ _ _) rfl rfl (Nat.le_of_ble_eq_true rfl) rfl rfl rfl rfl (by decide) (Nat.le_of_ble_eq_true rfl) rfl (by decide) (by decide) rfl rfl ?_
  refine wa_if_ne (tgt := 19) (pc' := 13) dX10_setChord_10 (by decide) rfl (by split <;> omega) (fun c10 => ?_) (fun c10 => ?_)
  · refine wa_aload_n (pc' := 20) dX10_setChord_19 rfl rfl rfl ?_
    refine wa_iD2 (pc' := 23) (st := []) (k_X10_isText t _ _ _ _ _ _ _ _ _ _ _ _ _ _ _ _ _ _ _ _ _ _ ht hx) ok_X10_isText lm_X10_146 dX10_setChord_20 rfl (wM_ok _ _ _ _ _ _ _ _ _ _ _ _ _ _ _ _ _ _ _ _ _ _) (Eq.refl 10) (wM_ok _ _ _ _ _ _ _ _ _ _ _ _ _ _ _ _ _ _ _ _ _ _) rfl rfl (Nat.le_of_ble_eq_true rfl) rfl rfl rfl rfl (by decide) (Nat.le_of_ble_eq_true rfl) rfl (by decide) (by decide) rfl rfl ?_
    show Wa _ _ _ _ _ _ _ _ [_] _ _ _
    refine wa_if_ne (tgt := 33) (pc' := 26) dX10_setChord_23 (by decide) rfl (by have := mcR_01 (gT t) (-1) 0 rr rq rb wh; omega) (fun c23 => ?_) (fun c23 => ?_)
    · refine wa_aload_n (pc' := 34) dX10_setChord_33 rfl rfl rfl ?_
      refine wa_iD2 (pc' := 37) (st := []) (k_X10_acts _ _ _ _ _ _ _ _ _ _ _ _ _ _ _ _ _ _ _ _ _ _ (by omega) ) ok_X10_acts lm_X10_107 dX10_setChord_34 rfl (wM_ok _ _ _ _ _ _ _ _ _ _ _ _ _ _ _ _ _ _ _ _ _ _) (Eq.refl 10) (wM_ok _ _ _ _ _ _ _ _ _ _ _ _ _ _ _ _ _ _ _ _ _ _) rfl rfl (Nat.le_of_ble_eq_true rfl) rfl rfl rfl rfl (by decide) (Nat.le_of_ble_eq_true rfl) rfl (by decide) (by decide) rfl rfl ?_
      show Wa _ _ _ _ _ _ _ _ [] _ _ _
      refine wa_aload_n (pc' := 38) dX10_setChord_37 rfl rfl rfl ?_
      refine wa_iload_n (pc' := 39) dX10_setChord_38 rfl rfl rfl ?_
      refine wa_dS (pc' := 42) (w' := [_, _, _, _, _, _, _, _, _, _]) (k_X10_chord i (by omega)) ok_X10_chord lm_X10_94 dX10_setChord_39 rfl [] rfl (by decide) rfl rfl (by decide) (Nat.le_of_ble_eq_true rfl) rfl (by decide) (by decide) rfl rfl rfl ?_
      refine wa_iD2 (pc' := 45) (st := []) (k_X10_puts _ _ _ _ _ _ _ _ _ _ _ _ _ _ _ _ _ _ _ _ _ _ _ (by omega) ) ok_X10_puts lm_X10_149 dX10_setChord_42 rfl (wM_ok _ _ _ _ _ _ _ _ _ _ _ _ _ _ _ _ _ _ _ _ _ _) (Eq.refl 10) (wM_ok _ _ _ _ _ _ _ _ _ _ _ _ _ _ _ _ _ _ _ _ _ _) rfl rfl (Nat.le_of_ble_eq_true rfl) rfl rfl rfl rfl (by decide) (Nat.le_of_ble_eq_true rfl) rfl (by decide) (by decide) rfl rfl ?_
      show Wa _ _ _ _ _ _ _ _ [] _ _ _
      refine wa_iconst (pc' := 46) dX10_setChord_45 rfl ?_
      refine wa_iret dX10_setChord_46 rfl (by decide) (by decide) ?_
      first | (exfalso; omega) | exact zD_i rfl rfl
    · exact absurd c23 h9
  · exact absurd hc (ite0 c10)

set_option maxRecDepth 10000 in
set_option maxHeartbeats 1000000 in
theorem k_X10_removeChord0 (s : zSh) (v pa : Int → Int) (sn : Int) (tx : Int → Int) (ty si fl wi th ap nt rr rq rb wh : Int) (md na : Int → Int) (nd : Int) (up lo : Int → Int) (us lw : Int) (i : Int) (hs : okW s) (hv : Vr s v) (hi : zin i) (hc : ¬ (0 ≤ i ∧ i < s.2.2.2.2.1)) : zMet q_X10_removeChord 2 0 0 [zR 0, zI i] (wM v pa sn tx ty si fl wi th ap nt rr rq rb wh md na nd up lo us lw) (zD (some (zI (0))) (wM v pa sn tx ty si fl wi 1 ap nt rr rq rb wh md na nd up lo us lw)) := by
  refine z_introF (ls := [(0, _), (1, _)]) (by decide +kernel) rfl (fun _ _ => rfl) (fun _ _ => Nat.le_of_ble_eq_true rfl) ?_
  obtain ⟨v0, v1, v2, v3, vT, vF, vL⟩ := id hv
  have hz := hs.1
  obtain ⟨z1, z2, zT1, z4, zF1, zL1⟩ := id hz.1
  have zNm := hz.2.1
  have zg := hz.2.2.1
  have zm := hz.2.2.2.1
  have zln := hz.2.2.2.2
  have vS := Vr_sg hv zm
  have zQ1 := fun i h1 h2 => (zNm i h1 h2).2.1
  refine wa_aload_n (pc' := 1) dX10_removeChord_0 rfl rfl rfl ?_
  refine wa_iconst (pc' := 2) dX10_removeChord_1 rfl ?_
  refine wa_putfield (pc' := 5) (j := 8) (w' := [zO _ [_, _, _, _, _, _, _, _, _, _, _, _, _, _, _, _, _, _, _, _, _, _, _, _], _, _, _, _, _, _, _, _, _]) zc_X10 lk_X10_46 dX10_removeChord_2 rfl (by decide) rfl rfl (Nat.le_of_ble_eq_true rfl) True.intro rfl ?_
  refine wa_aload_n (pc' := 6) dX10_removeChord_5 rfl rfl rfl ?_
  refine wa_iload_n (pc' := 7) dX10_removeChord_6 rfl rfl rfl ?_
  refine wa_rI2 (pc' := 10) (st := []) (k_X10_isChord s _ _ _ _ _ _ _ _ _ _ _ _ _ _ _ _ _ _ _ _ _ _ _ hs hv (by omega) ) ok_X10_isChord lm_X10_127 dX10_removeChord_7 rfl (wM_ok _ _ _ _ _ _ _ _ _ _ _ _ _ _ _ _ _ _ _ _ _ _) rfl rfl (Nat.le_of_ble_eq_true rfl) rfl rfl rfl rfl (by decide) (Nat.le_of_ble_eq_true rfl) rfl (by decide) (by decide) rfl rfl ?_
  refine wa_if_ne (tgt := 19) (pc' := 13) dX10_removeChord_10 (by decide) rfl (by split <;> omega) (fun c10 => ?_) (fun c10 => ?_)
  · exact absurd (ite1 c10) hc
  · refine wa_aload_n (pc' := 14) dX10_removeChord_13 rfl rfl rfl ?_
    refine wa_iconst (pc' := 15) dX10_removeChord_14 rfl ?_
    refine wa_iD2 (pc' := 18) (st := []) (k_X10_fails _ _ _ _ _ _ _ _ _ _ _ _ _ _ _ _ _ _ _ _ _ _ _ ) ok_X10_fails lm_X10_101 dX10_removeChord_15 rfl (wM_ok _ _ _ _ _ _ _ _ _ _ _ _ _ _ _ _ _ _ _ _ _ _) (Eq.refl 10) (wM_ok _ _ _ _ _ _ _ _ _ _ _ _ _ _ _ _ _ _ _ _ _ _) rfl rfl (Nat.le_of_ble_eq_true rfl) rfl rfl rfl rfl (by decide) (Nat.le_of_ble_eq_true rfl) rfl (by decide) (by decide) rfl rfl ?_
    show Wa _ _ _ _ _ _ _ _ [_] _ _ _
    refine wa_iret dX10_removeChord_18 rfl (by decide) (by decide) ?_
    first | (exfalso; omega) | exact zD_i rfl rfl

set_option maxRecDepth 10000 in
set_option maxHeartbeats 1000000 in
theorem k_X10_removeChord1 (s : zSh) (v pa : Int → Int) (sn : Int) (tx : Int → Int) (ty si fl wi th ap nt rr rq rb wh : Int) (md na : Int → Int) (nd : Int) (up lo : Int → Int) (us lw : Int) (i : Int) (hs : okW s) (hv : Vr s v) (hsn : 0 ≤ sn ∧ sn ≤ 8) (hc : 0 ≤ i ∧ i < s.2.2.2.2.1) : zMet q_X10_removeChord 2 0 0 [zR 0, zI i] (wM v pa sn tx ty si fl wi th ap nt rr rq rb wh md na nd up lo us lw) (zD (some (zI (s.2.2.2.2.1 - 1))) (wM ((cloV v i s.2.2.2.2.1)) (actP v sn pa) (if sn = 8 then 8 else sn + 1) tx ty si fl wi 0 ap nt rr rq rb wh md na nd up lo us lw)) := by
  refine z_introF (ls := [(0, _), (1, _)]) (by decide +kernel) rfl (fun _ _ => rfl) (fun _ _ => Nat.le_of_ble_eq_true rfl) ?_
  obtain ⟨v0, v1, v2, v3, vT, vF, vL⟩ := id hv
  have hz := hs.1
  obtain ⟨z1, z2, zT1, z4, zF1, zL1⟩ := id hz.1
  have zNm := hz.2.1
  have zg := hz.2.2.1
  have zm := hz.2.2.2.1
  have zln := hz.2.2.2.2
  have vS := Vr_sg hv zm
  have zQ1 := fun i h1 h2 => (zNm i h1 h2).2.1
  refine wa_aload_n (pc' := 1) dX10_removeChord_0 rfl rfl rfl ?_
  refine wa_iconst (pc' := 2) dX10_removeChord_1 rfl ?_
  refine wa_putfield (pc' := 5) (j := 8) (w' := [zO _ [_, _, _, _, _, _, _, _, _, _, _, _, _, _, _, _, _, _, _, _, _, _, _, _], _, _, _, _, _, _, _, _, _]) zc_X10 lk_X10_46 dX10_removeChord_2 rfl (by decide) rfl rfl (Nat.le_of_ble_eq_true rfl) True.intro rfl ?_
  refine wa_aload_n (pc' := 6) dX10_removeChord_5 rfl rfl rfl ?_
  refine wa_iload_n (pc' := 7) dX10_removeChord_6 rfl rfl rfl ?_
  refine wa_rI2 (pc' := 10) (st := []) (k_X10_isChord s _ _ _ _ _ _ _ _ _ _ _ _ _ _ _ _ _ _ _ _ _ _ _ hs hv (by omega) ) ok_X10_isChord lm_X10_127 dX10_removeChord_7 rfl (wM_ok _ _ _ _ _ _ _ _ _ _ _ _ _ _ _ _ _ _ _ _ _ _) rfl rfl (Nat.le_of_ble_eq_true rfl) rfl rfl rfl rfl (by decide) (Nat.le_of_ble_eq_true rfl) rfl (by decide) (by decide) rfl rfl ?_
  refine wa_if_ne (tgt := 19) (pc' := 13) dX10_removeChord_10 (by decide) rfl (by split <;> omega) (fun c10 => ?_) (fun c10 => ?_)
  · refine wa_aload_n (pc' := 20) dX10_removeChord_19 rfl rfl rfl ?_
    refine wa_iD2 (pc' := 23) (st := []) (k_X10_acts _ _ _ _ _ _ _ _ _ _ _ _ _ _ _ _ _ _ _ _ _ _ (by omega) ) ok_X10_acts lm_X10_107 dX10_removeChord_20 rfl (wM_ok _ _ _ _ _ _ _ _ _ _ _ _ _ _ _ _ _ _ _ _ _ _) (Eq.refl 10) (wM_ok _ _ _ _ _ _ _ _ _ _ _ _ _ _ _ _ _ _ _ _ _ _) rfl rfl (Nat.le_of_ble_eq_true rfl) rfl rfl rfl rfl (by decide) (Nat.le_of_ble_eq_true rfl) rfl (by decide) (by decide) rfl rfl ?_
    show Wa _ _ _ _ _ _ _ _ [] _ _ _
    refine wa_aload_n (pc' := 24) dX10_removeChord_23 rfl rfl rfl ?_
    refine wa_iload_n (pc' := 25) dX10_removeChord_24 rfl rfl rfl ?_
    refine wa_iD2 (pc' := 28) (st := []) (k_X10_closes _ _ _ _ _ _ _ _ _ _ _ _ _ _ _ _ _ _ _ _ _ _ i s.2.2.2.2.1 v1 hc (by omega)) ok_X10_closes lm_X10_158 dX10_removeChord_25 rfl (wM_ok _ _ _ _ _ _ _ _ _ _ _ _ _ _ _ _ _ _ _ _ _ _) (Eq.refl 10) (wM_ok _ _ _ _ _ _ _ _ _ _ _ _ _ _ _ _ _ _ _ _ _ _) rfl rfl (Nat.le_of_ble_eq_true rfl) rfl rfl rfl rfl (by decide) (Nat.le_of_ble_eq_true rfl) rfl (by decide) (by decide) rfl rfl ?_
    show Wa _ _ _ _ _ _ _ _ [] _ _ _
    show Wa _ _ _ _ _ _ _ _ [] (wM ((cloV v i s.2.2.2.2.1)) (actP v sn pa) (if sn = 8 then 8 else sn + 1) tx ty si fl wi 0 ap nt rr rq rb wh md na nd up lo us lw) _ _
    refine wa_aload_n (pc' := 29) dX10_removeChord_28 rfl rfl rfl ?_
    refine wa_getfield (pc' := 32) (j := 0) zc_X10 lk_X10_7 dX10_removeChord_29 rfl (by decide) rfl rfl ?_
    refine wa_iconst (pc' := 33) dX10_removeChord_32 rfl ?_
    refine wa_iaload (pc' := 34) dX10_removeChord_33 rfl rfl (by omega) (by omega) (by decide) ?_
    refine wa_iret dX10_removeChord_34 rfl (by decide) (by decide) ?_
    exact zD_i (by rw [cloV_e hc, if_neg (by omega), if_neg (by omega), if_pos rfl]) rfl
  · exact absurd hc (ite0 c10)

set_option maxRecDepth 10000 in
set_option maxHeartbeats 1000000 in
theorem k_X10_addChord0 (s : zSh) (t : zRw) (v pa : Int → Int) (sn : Int) (tx : Int → Int) (ty si fl wi th ap nt rr rq rb wh : Int) (md na : Int → Int) (nd : Int) (up lo : Int → Int) (us lw : Int) (l : Int) (k : Int) (hs : okW s) (hv : Vr s v) (ht : okT t) (hx : Tr t tx ty) (hl : zin l) (hk : zin k) (hc : ¬ ((0 ≤ l ∧ l < s.2.2.2.1) ∧ (0 ≤ k ∧ k ≤ s.2.1 (l + 1) - s.2.1 l))) : zMet q_X10_addChord 4 0 0 [zR 0, zI l, zI k] (wM v pa sn tx ty si fl wi th ap nt rr rq rb wh md na nd up lo us lw) (zD (some (zI (0))) (wM v pa sn tx ty si fl wi 1 ap nt rr rq rb wh md na nd up lo us lw)) := by
  refine z_introF (ls := [(0, _), (1, _), (2, _)]) (by decide +kernel) rfl (fun _ _ => rfl) (fun _ _ => Nat.le_of_ble_eq_true rfl) ?_
  obtain ⟨v0, v1, v2, v3, vT, vF, vL⟩ := id hv
  have hz := hs.1
  obtain ⟨z1, z2, zT1, z4, zF1, zL1⟩ := id hz.1
  have zNm := hz.2.1
  have zg := hz.2.2.1
  have zm := hz.2.2.2.1
  have zln := hz.2.2.2.2
  have vS := Vr_sg hv zm
  have zQ1 := fun i h1 h2 => (zNm i h1 h2).2.1
  obtain ⟨x0, x1⟩ := id hx
  obtain ⟨t1, t2, t3⟩ := id ht
  refine wa_aload_n (pc' := 1) dX10_addChord_0 rfl rfl rfl ?_
  refine wa_iconst (pc' := 2) dX10_addChord_1 rfl ?_
  refine wa_putfield (pc' := 5) (j := 8) (w' := [zO _ [_, _, _, _, _, _, _, _, _, _, _, _, _, _, _, _, _, _, _, _, _, _, _, _], _, _, _, _, _, _, _, _, _]) zc_X10 lk_X10_46 dX10_addChord_2 rfl (by decide) rfl rfl (Nat.le_of_ble_eq_true rfl) True.intro rfl ?_
  refine wa_aload_n (pc' := 6) dX10_addChord_5 rfl rfl rfl ?_
  refine wa_iload_n (pc' := 7) dX10_addChord_6 rfl rfl rfl ?_
  refine wa_rI2 (pc' := 10) (st := []) (k_X10_isLine s _ _ _ _ _ _ _ _ _ _ _ _ _ _ _ _ _ _ _ _ _ _ _ hs hv (by omega) ) ok_X10_isLine lm_X10_117 dX10_addChord_7 rfl (wM_ok _ _ _ _ _ _ _ _ _ _ _ _ _ _ _ _ _ _ _ _ _ _) rfl rfl (Nat.le_of_ble_eq_true rfl) rfl rfl rfl rfl (by decide) (Nat.le_of_ble_eq_true rfl) rfl (by decide) (by decide) rfl rfl ?_
  refine wa_if_eq (tgt := 26) (pc' := 13) dX10_addChord_10 (by decide) rfl (by split <;> omega) (fun c10 => ?_) (fun c10 => ?_)
  · refine wa_aload_n (pc' := 27) dX10_addChord_26 rfl rfl rfl ?_
    refine wa_iconst (pc' := 28) dX10_addChord_27 rfl ?_
    refine wa_iD2 (pc' := 31) (st := []) (k_X10_fails _ _ _ _ _ _ _ _ _ _ _ _ _ _ _ _ _ _ _ _ _ _ _ ) ok_X10_fails lm_X10_101 dX10_addChord_28 rfl (wM_ok _ _ _ _ _ _ _ _ _ _ _ _ _ _ _ _ _ _ _ _ _ _) (Eq.refl 10) (wM_ok _ _ _ _ _ _ _ _ _ _ _ _ _ _ _ _ _ _ _ _ _ _) rfl rfl (Nat.le_of_ble_eq_true rfl) rfl rfl rfl rfl (by decide) (Nat.le_of_ble_eq_true rfl) rfl (by decide) (by decide) rfl rfl ?_
    show Wa _ _ _ _ _ _ _ _ [_] _ _ _
    refine wa_iret dX10_addChord_31 rfl (by decide) (by decide) ?_
    first | (exfalso; omega) | exact zD_i rfl rfl
  · have h10 := ite1 c10
    have e1 := zT1 (l + 1) (by omega) (by omega)
    have e2 := zT1 l (by omega) (by omega)
    refine wa_iload_n (pc' := 14) dX10_addChord_13 rfl rfl rfl ?_
    refine wa_iconst (pc' := 15) dX10_addChord_14 rfl ?_
    refine wa_aload_n (pc' := 16) dX10_addChord_15 rfl rfl rfl ?_
    refine wa_iload_n (pc' := 17) dX10_addChord_16 rfl rfl rfl ?_
    refine wa_rI2 (pc' := 20) (st := [_, _]) (k_X10_lengthOf s _ _ _ _ _ _ _ _ _ _ _ _ _ _ _ _ _ _ _ _ _ _ _ hs hv (by omega) ) ok_X10_lengthOf lm_X10_120 dX10_addChord_17 rfl (wM_ok _ _ _ _ _ _ _ _ _ _ _ _ _ _ _ _ _ _ _ _ _ _) rfl rfl (Nat.le_of_ble_eq_true rfl) rfl rfl rfl rfl (by decide) (Nat.le_of_ble_eq_true rfl) rfl (by decide) (by decide) rfl rfl ?_
    refine wa_dS (pc' := 23) (w' := [_, _, _, _, _, _, _, _, _, _]) (k_X10_in _ _ _ (by omega) (by omega) (by omega) ) ok_X10_in lm_X10_97 dX10_addChord_20 rfl [] rfl (by decide) rfl rfl (by decide) (Nat.le_of_ble_eq_true rfl) rfl (by decide) (by decide) rfl rfl rfl ?_
    refine wa_if_ne (tgt := 32) (pc' := 26) dX10_addChord_23 (by decide) rfl (by split <;> omega) (fun c23 => ?_) (fun c23 => ?_)
    · exact absurd ⟨h10, ite1 c23⟩ hc
    · refine wa_aload_n (pc' := 27) dX10_addChord_26 rfl rfl rfl ?_
      refine wa_iconst (pc' := 28) dX10_addChord_27 rfl ?_
      refine wa_iD2 (pc' := 31) (st := []) (k_X10_fails _ _ _ _ _ _ _ _ _ _ _ _ _ _ _ _ _ _ _ _ _ _ _ ) ok_X10_fails lm_X10_101 dX10_addChord_28 rfl (wM_ok _ _ _ _ _ _ _ _ _ _ _ _ _ _ _ _ _ _ _ _ _ _) (Eq.refl 10) (wM_ok _ _ _ _ _ _ _ _ _ _ _ _ _ _ _ _ _ _ _ _ _ _) rfl rfl (Nat.le_of_ble_eq_true rfl) rfl rfl rfl rfl (by decide) (Nat.le_of_ble_eq_true rfl) rfl (by decide) (by decide) rfl rfl ?_
      show Wa _ _ _ _ _ _ _ _ [_] _ _ _
      refine wa_iret dX10_addChord_31 rfl (by decide) (by decide) ?_
      first | (exfalso; omega) | exact zD_i rfl rfl

set_option maxRecDepth 10000 in
set_option maxHeartbeats 1000000 in
theorem k_X10_addChord1 (s : zSh) (t : zRw) (v pa : Int → Int) (sn : Int) (tx : Int → Int) (ty si fl wi th ap nt rr rq rb wh : Int) (md na : Int → Int) (nd : Int) (up lo : Int → Int) (us lw : Int) (l : Int) (k : Int) (hs : okW s) (hv : Vr s v) (ht : okT t) (hx : Tr t tx ty) (hl : zin l) (hk : zin k) (hc : (0 ≤ l ∧ l < s.2.2.2.1) ∧ (0 ≤ k ∧ k ≤ s.2.1 (l + 1) - s.2.1 l)) (h4 : s.2.2.2.2.1 = 40) : zMet q_X10_addChord 4 0 0 [zR 0, zI l, zI k] (wM v pa sn tx ty si fl wi th ap nt rr rq rb wh md na nd up lo us lw) (zD (some (zI (0))) (wM v pa sn tx ty si fl wi 2 ap nt rr rq rb wh md na nd up lo us lw)) := by
  refine z_introF (ls := [(0, _), (1, _), (2, _)]) (by decide +kernel) rfl (fun _ _ => rfl) (fun _ _ => Nat.le_of_ble_eq_true rfl) ?_
  obtain ⟨v0, v1, v2, v3, vT, vF, vL⟩ := id hv
  have hz := hs.1
  obtain ⟨z1, z2, zT1, z4, zF1, zL1⟩ := id hz.1
  have zNm := hz.2.1
  have zg := hz.2.2.1
  have zm := hz.2.2.2.1
  have zln := hz.2.2.2.2
  have vS := Vr_sg hv zm
  have zQ1 := fun i h1 h2 => (zNm i h1 h2).2.1
  obtain ⟨x0, x1⟩ := id hx
  obtain ⟨t1, t2, t3⟩ := id ht
  have e1 := zT1 (l + 1) (by omega) (by omega)
  have e2 := zT1 l (by omega) (by omega)
  refine wa_aload_n (pc' := 1) dX10_addChord_0 rfl rfl rfl ?_
  refine wa_iconst (pc' := 2) dX10_addChord_1 rfl ?_
  refine wa_putfield (pc' := 5) (j := 8) (w' := [zO _ [_, _, _, _, _, _, _, _, _, _, _, _, _, _, _, _, _, _, _, _, _, _, _, _], _, _, _, _, _, _, _, _, _]) zc_X10 lk_X10_46 dX10_addChord_2 rfl (by decide) rfl rfl (Nat.le_of_ble_eq_true rfl) True.intro rfl ?_
  refine wa_aload_n (pc' := 6) dX10_addChord_5 rfl rfl rfl ?_
  refine wa_iload_n (pc' := 7) dX10_addChord_6 rfl rfl rfl ?_
  refine wa_rI2 (pc' := 10) (st := []) (k_X10_isLine s _ _ _ _ _ _ _ _ _ _ _ _ _ _ _ _ _ _ _ _ _ _ _ hs hv (by omega) ) ok_X10_isLine lm_X10_117 dX10_addChord_7 rfl (wM_ok _ _ _ _ _ _ _ _ _ _ _ _ _ _ _ _ _ _ _ _ _ _) rfl rfl (Nat.le_of_ble_eq_true rfl) rfl rfl rfl rfl (by decide) (Nat.le_of_ble_eq_true rfl) rfl (by decide) (by decide) rfl rfl ?_
  refine wa_if_eq (tgt := 26) (pc' := 13) dX10_addChord_10 (by decide) rfl (by split <;> omega) (fun c10 => ?_) (fun c10 => ?_)
  · exact absurd hc.1 (ite0 c10)
  · refine wa_iload_n (pc' := 14) dX10_addChord_13 rfl rfl rfl ?_
    refine wa_iconst (pc' := 15) dX10_addChord_14 rfl ?_
    refine wa_aload_n (pc' := 16) dX10_addChord_15 rfl rfl rfl ?_
    refine wa_iload_n (pc' := 17) dX10_addChord_16 rfl rfl rfl ?_
    refine wa_rI2 (pc' := 20) (st := [_, _]) (k_X10_lengthOf s _ _ _ _ _ _ _ _ _ _ _ _ _ _ _ _ _ _ _ _ _ _ _ hs hv (by omega) ) ok_X10_lengthOf lm_X10_120 dX10_addChord_17 rfl (wM_ok _ _ _ _ _ _ _ _ _ _ _ _ _ _ _ _ _ _ _ _ _ _) rfl rfl (Nat.le_of_ble_eq_true rfl) rfl rfl rfl rfl (by decide) (Nat.le_of_ble_eq_true rfl) rfl (by decide) (by decide) rfl rfl ?_
    refine wa_dS (pc' := 23) (w' := [_, _, _, _, _, _, _, _, _, _]) (k_X10_in _ _ _ (by omega) (by omega) (by omega) ) ok_X10_in lm_X10_97 dX10_addChord_20 rfl [] rfl (by decide) rfl rfl (by decide) (Nat.le_of_ble_eq_true rfl) rfl (by decide) (by decide) rfl rfl rfl ?_
    refine wa_if_ne (tgt := 32) (pc' := 26) dX10_addChord_23 (by decide) rfl (by split <;> omega) (fun c23 => ?_) (fun c23 => ?_)
    · refine wa_aload_n (pc' := 33) dX10_addChord_32 rfl rfl rfl ?_
      refine wa_getfield (pc' := 36) (j := 0) zc_X10 lk_X10_7 dX10_addChord_33 rfl (by decide) rfl rfl ?_
      refine wa_iconst (pc' := 37) dX10_addChord_36 rfl ?_
      refine wa_iaload (pc' := 38) dX10_addChord_37 rfl rfl (by omega) (by omega) (by decide) ?_
      refine wa_bipush (pc' := 40) dX10_addChord_38 rfl rfl ?_
      refine wa_icmp_ne (tgt := 49) (pc' := 43) dX10_addChord_40 (by decide) rfl (by omega) (by omega) (fun c40 => ?_) (fun c40 => ?_)
      · exact absurd (v1.trans h4) c40
      · refine wa_aload_n (pc' := 44) dX10_addChord_43 rfl rfl rfl ?_
        refine wa_iconst (pc' := 45) dX10_addChord_44 rfl ?_
        refine wa_iD2 (pc' := 48) (st := []) (k_X10_fails _ _ _ _ _ _ _ _ _ _ _ _ _ _ _ _ _ _ _ _ _ _ _ ) ok_X10_fails lm_X10_101 dX10_addChord_45 rfl (wM_ok _ _ _ _ _ _ _ _ _ _ _ _ _ _ _ _ _ _ _ _ _ _) (Eq.refl 10) (wM_ok _ _ _ _ _ _ _ _ _ _ _ _ _ _ _ _ _ _ _ _ _ _) rfl rfl (Nat.le_of_ble_eq_true rfl) rfl rfl rfl rfl (by decide) (Nat.le_of_ble_eq_true rfl) rfl (by decide) (by decide) rfl rfl ?_
        show Wa _ _ _ _ _ _ _ _ [_] _ _ _
        refine wa_iret dX10_addChord_48 rfl (by decide) (by decide) ?_
        first | (exfalso; omega) | exact zD_i rfl rfl
    · exact absurd hc.2 (ite0 c23)

set_option maxRecDepth 10000 in
set_option maxHeartbeats 1000000 in
theorem k_X10_addChord2 (s : zSh) (t : zRw) (v pa : Int → Int) (sn : Int) (tx : Int → Int) (ty si fl wi th ap nt rr rq rb wh : Int) (md na : Int → Int) (nd : Int) (up lo : Int → Int) (us lw : Int) (l : Int) (k : Int) (hs : okW s) (hv : Vr s v) (ht : okT t) (hx : Tr t tx ty) (hl : zin l) (hk : zin k) (hc : (0 ≤ l ∧ l < s.2.2.2.1) ∧ (0 ≤ k ∧ k ≤ s.2.1 (l + 1) - s.2.1 l)) (h4 : ¬ s.2.2.2.2.1 = 40) (h9 : (mcR (gT t) (-1) 0 rr rq rb wh).1 = 0) : zMet q_X10_addChord 4 0 0 [zR 0, zI l, zI k] (wM v pa sn tx ty si fl wi th ap nt rr rq rb wh md na nd up lo us lw) (zD (some (zI (-1 - (mcR (gT t) (-1) 0 rr rq rb wh).2.1))) (wM v pa sn tx ty si fl wi 0 ((mcR (gT t) (-1) 0 rr rq rb wh).2.1) ((mcR (gT t) (-1) 0 rr rq rb wh).2.2.1) ((mcR (gT t) (-1) 0 rr rq rb wh).2.2.2.1) ((mcR (gT t) (-1) 0 rr rq rb wh).2.2.2.2.1) ((mcR (gT t) (-1) 0 rr rq rb wh).2.2.2.2.2.1) ((mcR (gT t) (-1) 0 rr rq rb wh).2.2.2.2.2.2) md na nd up lo us lw)) := by
  refine z_introF (ls := [(0, _), (1, _), (2, _)]) (by decide +kernel) rfl (fun _ _ => rfl) (fun _ _ => Nat.le_of_ble_eq_true rfl) ?_
  obtain ⟨v0, v1, v2, v3, vT, vF, vL⟩ := id hv
  have hz := hs.1
  obtain ⟨z1, z2, zT1, z4, zF1, zL1⟩ := id hz.1
  have zNm := hz.2.1
  have zg := hz.2.2.1
  have zm := hz.2.2.2.1
  have zln := hz.2.2.2.2
  have vS := Vr_sg hv zm
  have zQ1 := fun i h1 h2 => (zNm i h1 h2).2.1
  obtain ⟨x0, x1⟩ := id hx
  obtain ⟨t1, t2, t3⟩ := id ht
  have e1 := zT1 (l + 1) (by omega) (by omega)
  have e2 := zT1 l (by omega) (by omega)
  refine wa_aload_n (pc' := 1) dX10_addChord_0 rfl rfl rfl ?_
  refine wa_iconst (pc' := 2) dX10_addChord_1 rfl ?_
  refine wa_putfield (pc' := 5) (j := 8) (w' := [zO _ [_, _, _, _, _, _, _, _, _, _, _, _, _, _, _, _, _, _, _, _, _, _, _, _], _, _, _, _, _, _, _, _, _]) zc_X10 lk_X10_46 dX10_addChord_2 rfl (by decide) rfl rfl (Nat.le_of_ble_eq_true rfl) True.intro rfl ?_
  refine wa_aload_n (pc' := 6) dX10_addChord_5 rfl rfl rfl ?_
  refine wa_iload_n (pc' := 7) dX10_addChord_6 rfl rfl rfl ?_
  refine wa_rI2 (pc' := 10) (st := []) (k_X10_isLine s _ _ _ _ _ _ _ _ _ _ _ _ _ _ _ _ _ _ _ _ _ _ _ hs hv (by omega) ) ok_X10_isLine lm_X10_117 dX10_addChord_7 rfl (wM_ok _ _ _ _ _ _ _ _ _ _ _ _ _ _ _ _ _ _ _ _ _ _) rfl rfl (Nat.le_of_ble_eq_true rfl) rfl rfl rfl rfl (by decide) (Nat.le_of_ble_eq_true rfl) rfl (by decide) (by decide) rfl rfl ?_
  refine wa_if_eq (tgt := 26) (pc' := 13) dX10_addChord_10 (by decide) rfl (by split <;> omega) (fun c10 => ?_) (fun c10 => ?_)
  · exact absurd hc.1 (ite0 c10)
  · refine wa_iload_n (pc' := 14) dX10_addChord_13 rfl rfl rfl ?_
    refine wa_iconst (pc' := 15) dX10_addChord_14 rfl ?_
    refine wa_aload_n (pc' := 16) dX10_addChord_15 rfl rfl rfl ?_
    refine wa_iload_n (pc' := 17) dX10_addChord_16 rfl rfl rfl ?_
    refine wa_rI2 (pc' := 20) (st := [_, _]) (k_X10_lengthOf s _ _ _ _ _ _ _ _ _ _ _ _ _ _ _ _ _ _ _ _ _ _ _ hs hv (by omega) ) ok_X10_lengthOf lm_X10_120 dX10_addChord_17 rfl (wM_ok _ _ _ _ _ _ _ _ _ _ _ _ _ _ _ _ _ _ _ _ _ _) rfl rfl (Nat.le_of_ble_eq_true rfl) rfl rfl rfl rfl (by decide) (Nat.le_of_ble_eq_true rfl) rfl (by decide) (by decide) rfl rfl ?_
    refine wa_dS (pc' := 23) (w' := [_, _, _, _, _, _, _, _, _, _]) (k_X10_in _ _ _ (by omega) (by omega) (by omega) ) ok_X10_in lm_X10_97 dX10_addChord_20 rfl [] rfl (by decide) rfl rfl (by decide) (Nat.le_of_ble_eq_true rfl) rfl (by decide) (by decide) rfl rfl rfl ?_
    refine wa_if_ne (tgt := 32) (pc' := 26) dX10_addChord_23 (by decide) rfl (by split <;> omega) (fun c23 => ?_) (fun c23 => ?_)
    · refine wa_aload_n (pc' := 33) dX10_addChord_32 rfl rfl rfl ?_
      refine wa_getfield (pc' := 36) (j := 0) zc_X10 lk_X10_7 dX10_addChord_33 rfl (by decide) rfl rfl ?_
      refine wa_iconst (pc' := 37) dX10_addChord_36 rfl ?_
      refine wa_iaload (pc' := 38) dX10_addChord_37 rfl rfl (by omega) (by omega) (by decide) ?_
      refine wa_bipush (pc' := 40) dX10_addChord_38 rfl rfl ?_
      refine wa_icmp_ne (tgt := 49) (pc' := 43) dX10_addChord_40 (by decide) rfl (by omega) (by omega) (fun c40 => ?_) (fun c40 => ?_)
      · refine wa_aload_n (pc' := 50) dX10_addChord_49 rfl rfl rfl ?_
        refine wa_iD2 (pc' := 53) (st := []) (k_X10_isText t _ _ _ _ _ _ _ _ _ _ _ _ _ _ _ _ _ _ _ _ _ _ ht hx) ok_X10_isText lm_X10_146 dX10_addChord_50 rfl (wM_ok _ _ _ _ _ _ _ _ _ _ _ _ _ _ _ _ _ _ _ _ _ _) (Eq.refl 10) (wM_ok _ _ _ _ _ _ _ _ _ _ _ _ _ _ _ _ _ _ _ _ _ _) rfl rfl (Nat.le_of_ble_eq_true rfl) rfl rfl rfl rfl (by decide) (Nat.le_of_ble_eq_true rfl) rfl (by decide) (by decide) rfl rfl ?_
        show Wa _ _ _ _ _ _ _ _ [_] _ _ _
        refine wa_if_ne (tgt := 63) (pc' := 56) dX10_addChord_53 (by decide) rfl (by have := mcR_01 (gT t) (-1) 0 rr rq rb wh; omega) (fun c53 => ?_) (fun c53 => ?_)
        · exact absurd h9 c53
        · refine wa_iconst (pc' := 57) dX10_addChord_56 rfl ?_
          refine wa_aload_n (pc' := 58) dX10_addChord_57 rfl rfl rfl ?_
          refine wa_getfield (pc' := 61) (j := 11) zc_X10 lk_X10_59 dX10_addChord_58 rfl (by decide) rfl rfl ?_
          refine wa_isub (pc' := 62) dX10_addChord_61 rfl ?_
          refine wa_iret dX10_addChord_62 rfl (by decide) (by decide) ?_
          first | (exfalso; omega) | exact zD_i rfl rfl
      · exact absurd (v1.symm.trans c40) h4
    · exact absurd hc.2 (ite0 c23)

set_option maxRecDepth 10000 in
set_option maxHeartbeats 1000000 in
theorem k_X10_addChord3 (s : zSh) (t : zRw) (v pa : Int → Int) (sn : Int) (tx : Int → Int) (ty si fl wi th ap nt rr rq rb wh : Int) (md na : Int → Int) (nd : Int) (up lo : Int → Int) (us lw : Int) (l : Int) (k : Int) (hs : okW s) (hv : Vr s v) (ht : okT t) (hx : Tr t tx ty) (hsn : 0 ≤ sn ∧ sn ≤ 8)(hl : zin l) (hk : zin k) (hc : (0 ≤ l ∧ l < s.2.2.2.1) ∧ (0 ≤ k ∧ k ≤ s.2.1 (l + 1) - s.2.1 l)) (h4 : ¬ s.2.2.2.2.1 = 40) (h9 : ¬ (mcR (gT t) (-1) 0 rr rq rb wh).1 = 0) : zMet q_X10_addChord 4 0 0 [zR 0, zI l, zI k] (wM v pa sn tx ty si fl wi th ap nt rr rq rb wh md na nd up lo us lw) (zD (some (zI ((cUT s.2.2.1 l k s.2.2.2.2.1.toNat 0)))) (wM (insV v (cUT s.2.2.1 l k s.2.2.2.2.1.toNat 0) s.2.2.2.2.1 l k (mcR (gT t) (-1) 0 rr rq rb wh).2.2.2.1 (mcR (gT t) (-1) 0 rr rq rb wh).2.2.2.2.1 (mcR (gT t) (-1) 0 rr rq rb wh).2.2.2.2.2.1) (actP v sn pa) (if sn = 8 then 8 else sn + 1) tx 0 si fl wi 0 ((mcR (gT t) (-1) 0 rr rq rb wh).2.1) ((mcR (gT t) (-1) 0 rr rq rb wh).2.2.1) ((mcR (gT t) (-1) 0 rr rq rb wh).2.2.2.1) ((mcR (gT t) (-1) 0 rr rq rb wh).2.2.2.2.1) ((mcR (gT t) (-1) 0 rr rq rb wh).2.2.2.2.2.1) ((mcR (gT t) (-1) 0 rr rq rb wh).2.2.2.2.2.2) md na nd up lo us lw)) := by
  refine z_introF (ls := [(0, _), (1, _), (2, _)]) (by decide +kernel) rfl (fun _ _ => rfl) (fun _ _ => Nat.le_of_ble_eq_true rfl) ?_
  obtain ⟨v0, v1, v2, v3, vT, vF, vL⟩ := id hv
  have hz := hs.1
  obtain ⟨z1, z2, zT1, z4, zF1, zL1⟩ := id hz.1
  have zNm := hz.2.1
  have zg := hz.2.2.1
  have zm := hz.2.2.2.1
  have zln := hz.2.2.2.2
  have vS := Vr_sg hv zm
  have zQ1 := fun i h1 h2 => (zNm i h1 h2).2.1
  obtain ⟨x0, x1⟩ := id hx
  obtain ⟨t1, t2, t3⟩ := id ht
  have e1 := zT1 (l + 1) (by omega) (by omega)
  have e2 := zT1 l (by omega) (by omega)
  have hu := cUT_le s.2.2.1 l k s.2.2.2.2.1.toNat 0
  refine wa_aload_n (pc' := 1) dX10_addChord_0 rfl rfl rfl ?_
  refine wa_iconst (pc' := 2) dX10_addChord_1 rfl ?_
  refine wa_putfield (pc' := 5) (j := 8) (w' := [zO _ [_, _, _, _, _, _, _, _, _, _, _, _, _, _, _, _, _, _, _, _, _, _, _, _], _, _, _, _, _, _, _, _, _]) zc_X10 lk_X10_46 dX10_addChord_2 rfl (by decide) rfl rfl (Nat.le_of_ble_eq_true rfl) True.intro rfl ?_
  refine wa_aload_n (pc' := 6) dX10_addChord_5 rfl rfl rfl ?_
  refine wa_iload_n (pc' := 7) dX10_addChord_6 rfl rfl rfl ?_
  refine wa_rI2 (pc' := 10) (st := []) (k_X10_isLine s _ _ _ _ _ _ _ _ _ _ _ _ _ _ _ _ _ _ _ _ _ _ _ hs hv (by omega) ) ok_X10_isLine lm_X10_117 dX10_addChord_7 rfl (wM_ok _ _ _ _ _ _ _ _ _ _ _ _ _ _ _ _ _ _ _ _ _ _) rfl rfl (Nat.le_of_ble_eq_true rfl) rfl rfl rfl rfl (by decide) (Nat.le_of_ble_eq_true rfl) rfl (by decide) (by decide) rfl rfl ?_
  refine wa_if_eq (tgt := 26) (pc' := 13) dX10_addChord_10 (by decide) rfl (by split <;> omega) (fun c10 => ?_) (fun c10 => ?_)
  · exact absurd hc.1 (ite0 c10)
  · refine wa_iload_n (pc' := 14) dX10_addChord_13 rfl rfl rfl ?_
    refine wa_iconst (pc' := 15) dX10_addChord_14 rfl ?_
    refine wa_aload_n (pc' := 16) dX10_addChord_15 rfl rfl rfl ?_
    refine wa_iload_n (pc' := 17) dX10_addChord_16 rfl rfl rfl ?_
    refine wa_rI2 (pc' := 20) (st := [_, _]) (k_X10_lengthOf s _ _ _ _ _ _ _ _ _ _ _ _ _ _ _ _ _ _ _ _ _ _ _ hs hv (by omega) ) ok_X10_lengthOf lm_X10_120 dX10_addChord_17 rfl (wM_ok _ _ _ _ _ _ _ _ _ _ _ _ _ _ _ _ _ _ _ _ _ _) rfl rfl (Nat.le_of_ble_eq_true rfl) rfl rfl rfl rfl (by decide) (Nat.le_of_ble_eq_true rfl) rfl (by decide) (by decide) rfl rfl ?_
    refine wa_dS (pc' := 23) (w' := [_, _, _, _, _, _, _, _, _, _]) (k_X10_in _ _ _ (by omega) (by omega) (by omega) ) ok_X10_in lm_X10_97 dX10_addChord_20 rfl [] rfl (by decide) rfl rfl (by decide) (Nat.le_of_ble_eq_true rfl) rfl (by decide) (by decide) rfl rfl rfl ?_
    refine wa_if_ne (tgt := 32) (pc' := 26) dX10_addChord_23 (by decide) rfl (by split <;> omega) (fun c23 => ?_) (fun c23 => ?_)
    · refine wa_aload_n (pc' := 33) dX10_addChord_32 rfl rfl rfl ?_
      refine wa_getfield (pc' := 36) (j := 0) zc_X10 lk_X10_7 dX10_addChord_33 rfl (by decide) rfl rfl ?_
      refine wa_iconst (pc' := 37) dX10_addChord_36 rfl ?_
      refine wa_iaload (pc' := 38) dX10_addChord_37 rfl rfl (by omega) (by omega) (by decide) ?_
      refine wa_bipush (pc' := 40) dX10_addChord_38 rfl rfl ?_
      refine wa_icmp_ne (tgt := 49) (pc' := 43) dX10_addChord_40 (by decide) rfl (by omega) (by omega) (fun c40 => ?_) (fun c40 => ?_)
      · refine wa_aload_n (pc' := 50) dX10_addChord_49 rfl rfl rfl ?_
        refine wa_iD2 (pc' := 53) (st := []) (k_X10_isText t _ _ _ _ _ _ _ _ _ _ _ _ _ _ _ _ _ _ _ _ _ _ ht hx) ok_X10_isText lm_X10_146 dX10_addChord_50 rfl (wM_ok _ _ _ _ _ _ _ _ _ _ _ _ _ _ _ _ _ _ _ _ _ _) (Eq.refl 10) (wM_ok _ _ _ _ _ _ _ _ _ _ _ _ _ _ _ _ _ _ _ _ _ _) rfl rfl (Nat.le_of_ble_eq_true rfl) rfl rfl rfl rfl (by decide) (Nat.le_of_ble_eq_true rfl) rfl (by decide) (by decide) rfl rfl ?_
        show Wa _ _ _ _ _ _ _ _ [_] _ _ _
        refine wa_if_ne (tgt := 63) (pc' := 56) dX10_addChord_53 (by decide) rfl (by have := mcR_01 (gT t) (-1) 0 rr rq rb wh; omega) (fun c53 => ?_) (fun c53 => ?_)
        · refine wa_aload_n (pc' := 64) dX10_addChord_63 rfl rfl rfl ?_
          refine wa_iD2 (pc' := 67) (st := []) (k_X10_acts _ _ _ _ _ _ _ _ _ _ _ _ _ _ _ _ _ _ _ _ _ _ (by omega) ) ok_X10_acts lm_X10_107 dX10_addChord_64 rfl (wM_ok _ _ _ _ _ _ _ _ _ _ _ _ _ _ _ _ _ _ _ _ _ _) (Eq.refl 10) (wM_ok _ _ _ _ _ _ _ _ _ _ _ _ _ _ _ _ _ _ _ _ _ _) rfl rfl (Nat.le_of_ble_eq_true rfl) rfl rfl rfl rfl (by decide) (Nat.le_of_ble_eq_true rfl) rfl (by decide) (by decide) rfl rfl ?_
          show Wa _ _ _ _ _ _ _ _ [] _ _ _
          refine wa_aload_n (pc' := 68) dX10_addChord_67 rfl rfl rfl ?_
          refine wa_iload_n (pc' := 69) dX10_addChord_68 rfl rfl rfl ?_
          refine wa_iload_n (pc' := 70) dX10_addChord_69 rfl rfl rfl ?_
          refine wa_rI2 (pc' := 73) (st := []) (k_X10_comesTo s _ _ _ _ _ _ _ _ _ _ _ _ _ _ _ _ _ _ _ _ _ _ l k hs hv (by omega) (by omega)) ok_X10_comesTo lm_X10_152 dX10_addChord_70 rfl (wM_ok _ _ _ _ _ _ _ _ _ _ _ _ _ _ _ _ _ _ _ _ _ _) rfl rfl (Nat.le_of_ble_eq_true rfl) rfl rfl rfl rfl (by decide) (Nat.le_of_ble_eq_true rfl) rfl (by decide) (by decide) rfl rfl ?_
          refine wa_istore_n (pc' := 74) (ls' := [(3, _), (0, _), (1, _), (2, _)]) dX10_addChord_73 rfl rfl (by decide) rfl ?_
          refine wa_aload_n (pc' := 75) dX10_addChord_74 rfl rfl rfl ?_
          refine wa_iload_n (pc' := 76) dX10_addChord_75 rfl rfl rfl ?_
          refine wa_iD2 (pc' := 79) (st := []) (k_X10_opens _ _ _ _ _ _ _ _ _ _ _ _ _ _ _ _ _ _ _ _ _ _ (cUT s.2.2.1 l k s.2.2.2.2.1.toNat 0) s.2.2.2.2.1 v1 (by omega) (by omega)) ok_X10_opens lm_X10_155 dX10_addChord_76 rfl (wM_ok _ _ _ _ _ _ _ _ _ _ _ _ _ _ _ _ _ _ _ _ _ _) (Eq.refl 10) (wM_ok _ _ _ _ _ _ _ _ _ _ _ _ _ _ _ _ _ _ _ _ _ _) rfl rfl (Nat.le_of_ble_eq_true rfl) rfl rfl rfl rfl (by decide) (Nat.le_of_ble_eq_true rfl) rfl (by decide) (by decide) rfl rfl ?_
          show Wa _ _ _ _ _ _ _ _ [] _ _ _
          refine wa_aload_n (pc' := 80) dX10_addChord_79 rfl rfl rfl ?_
          refine wa_getfield (pc' := 83) (j := 0) zc_X10 lk_X10_7 dX10_addChord_80 rfl (by decide) rfl rfl ?_
          refine wa_iload_n (pc' := 84) dX10_addChord_83 rfl rfl rfl ?_
          refine wa_dS (pc' := 87) (w' := [_, _, _, _, _, _, _, _, _, _]) (k_X10_chord (cUT s.2.2.1 l k s.2.2.2.2.1.toNat 0) (by omega)) ok_X10_chord lm_X10_94 dX10_addChord_84 rfl [] rfl (by decide) rfl rfl (by decide) (Nat.le_of_ble_eq_true rfl) rfl (by decide) (by decide) rfl rfl rfl ?_
          refine wa_iconst (pc' := 88) dX10_addChord_87 rfl ?_
          refine wa_iadd (pc' := 89) dX10_addChord_88 rfl ?_
          refine wa_iload_n (pc' := 90) dX10_addChord_89 rfl rfl rfl ?_
          refine wa_iastore (pc' := 91) (w' := [_, zA _ _ _, _, _, _, _, _, _, _, _]) dX10_addChord_90 rfl rfl (by omega) (by omega) (by decide) rfl ?_
          refine wa_aload_n (pc' := 92) dX10_addChord_91 rfl rfl rfl ?_
          refine wa_getfield (pc' := 95) (j := 0) zc_X10 lk_X10_7 dX10_addChord_92 rfl (by decide) rfl rfl ?_
          refine wa_iload_n (pc' := 96) dX10_addChord_95 rfl rfl rfl ?_
          refine wa_dS (pc' := 99) (w' := [_, _, _, _, _, _, _, _, _, _]) (k_X10_chord (cUT s.2.2.1 l k s.2.2.2.2.1.toNat 0) (by omega)) ok_X10_chord lm_X10_94 dX10_addChord_96 rfl [] rfl (by decide) rfl rfl (by decide) (Nat.le_of_ble_eq_true rfl) rfl (by decide) (by decide) rfl rfl rfl ?_
          refine wa_iconst (pc' := 100) dX10_addChord_99 rfl ?_
          refine wa_iadd (pc' := 101) dX10_addChord_100 rfl ?_
          refine wa_iload_n (pc' := 102) dX10_addChord_101 rfl rfl rfl ?_
          refine wa_iastore (pc' := 103) (w' := [_, zA _ _ _, _, _, _, _, _, _, _, _]) dX10_addChord_102 rfl rfl (by omega) (by omega) (by decide) rfl ?_
          refine wa_aload_n (pc' := 104) dX10_addChord_103 rfl rfl rfl ?_
          refine wa_iload_n (pc' := 105) dX10_addChord_104 rfl rfl rfl ?_
          refine wa_dS (pc' := 108) (w' := [_, _, _, _, _, _, _, _, _, _]) (k_X10_chord (cUT s.2.2.1 l k s.2.2.2.2.1.toNat 0) (by omega)) ok_X10_chord lm_X10_94 dX10_addChord_105 rfl [] rfl (by decide) rfl rfl (by decide) (Nat.le_of_ble_eq_true rfl) rfl (by decide) (by decide) rfl rfl rfl ?_
          refine wa_iD2 (pc' := 111) (st := []) (k_X10_puts _ _ _ _ _ _ _ _ _ _ _ _ _ _ _ _ _ _ _ _ _ _ (210 + 5 * (cUT s.2.2.1 l k s.2.2.2.2.1.toNat 0)) (by omega)) ok_X10_puts lm_X10_149 dX10_addChord_108 rfl (wM_ok _ _ _ _ _ _ _ _ _ _ _ _ _ _ _ _ _ _ _ _ _ _) (Eq.refl 10) (wM_ok _ _ _ _ _ _ _ _ _ _ _ _ _ _ _ _ _ _ _ _ _ _) rfl rfl (Nat.le_of_ble_eq_true rfl) rfl rfl rfl rfl (by decide) (Nat.le_of_ble_eq_true rfl) rfl (by decide) (by decide) rfl rfl ?_
          show Wa _ _ _ _ _ _ _ _ [] _ _ _
          refine wa_iload_n (pc' := 112) dX10_addChord_111 rfl rfl rfl ?_
          refine wa_iret dX10_addChord_112 rfl (by decide) (by decide) ?_
          first | (exfalso; omega) | exact zD_i rfl rfl
        · exact absurd c53 h9
      · exact absurd (v1.symm.trans c40) h4
    · exact absurd hc.2 (ite0 c23)

set_option maxRecDepth 10000 in
set_option maxHeartbeats 1000000 in
theorem k_X10_moveChord0 (s : zSh) (v pa : Int → Int) (sn : Int) (tx : Int → Int) (ty si fl wi th ap nt rr rq rb wh : Int) (md na : Int → Int) (nd : Int) (up lo : Int → Int) (us lw : Int) (i : Int) (k : Int) (hs : okW s) (hv : Vr s v) (hi : zin i) (hk : zin k) (hc : ¬ ((0 ≤ i ∧ i < s.2.2.2.2.1) ∧ (0 ≤ k ∧ k ≤ s.2.1 (s.2.2.1 (i * 5 + 0) + 1) - s.2.1 (s.2.2.1 (i * 5 + 0))))) : zMet q_X10_moveChord 3 0 0 [zR 0, zI i, zI k] (wM v pa sn tx ty si fl wi th ap nt rr rq rb wh md na nd up lo us lw) (zD (some (zI (0))) (wM v pa sn tx ty si fl wi 1 ap nt rr rq rb wh md na nd up lo us lw)) := by
  refine z_introF (ls := [(0, _), (1, _), (2, _)]) (by decide +kernel) rfl (fun _ _ => rfl) (fun _ _ => Nat.le_of_ble_eq_true rfl) ?_
  obtain ⟨v0, v1, v2, v3, vT, vF, vL⟩ := id hv
  have hz := hs.1
  obtain ⟨z1, z2, zT1, z4, zF1, zL1⟩ := id hz.1
  have zNm := hz.2.1
  have zg := hz.2.2.1
  have zm := hz.2.2.2.1
  have zln := hz.2.2.2.2
  have vS := Vr_sg hv zm
  have zQ1 := fun i h1 h2 => (zNm i h1 h2).2.1
  refine wa_aload_n (pc' := 1) dX10_moveChord_0 rfl rfl rfl ?_
  refine wa_iconst (pc' := 2) dX10_moveChord_1 rfl ?_
  refine wa_putfield (pc' := 5) (j := 8) (w' := [zO _ [_, _, _, _, _, _, _, _, _, _, _, _, _, _, _, _, _, _, _, _, _, _, _, _], _, _, _, _, _, _, _, _, _]) zc_X10 lk_X10_46 dX10_moveChord_2 rfl (by decide) rfl rfl (Nat.le_of_ble_eq_true rfl) True.intro rfl ?_
  refine wa_aload_n (pc' := 6) dX10_moveChord_5 rfl rfl rfl ?_
  refine wa_iload_n (pc' := 7) dX10_moveChord_6 rfl rfl rfl ?_
  refine wa_rI2 (pc' := 10) (st := []) (k_X10_isChord s _ _ _ _ _ _ _ _ _ _ _ _ _ _ _ _ _ _ _ _ _ _ _ hs hv (by omega) ) ok_X10_isChord lm_X10_127 dX10_moveChord_7 rfl (wM_ok _ _ _ _ _ _ _ _ _ _ _ _ _ _ _ _ _ _ _ _ _ _) rfl rfl (Nat.le_of_ble_eq_true rfl) rfl rfl rfl rfl (by decide) (Nat.le_of_ble_eq_true rfl) rfl (by decide) (by decide) rfl rfl ?_
  refine wa_if_eq (tgt := 34) (pc' := 13) dX10_moveChord_10 (by decide) rfl (by split <;> omega) (fun c10 => ?_) (fun c10 => ?_)
  · refine wa_aload_n (pc' := 35) dX10_moveChord_34 rfl rfl rfl ?_
    refine wa_iconst (pc' := 36) dX10_moveChord_35 rfl ?_
    refine wa_iD2 (pc' := 39) (st := []) (k_X10_fails _ _ _ _ _ _ _ _ _ _ _ _ _ _ _ _ _ _ _ _ _ _ _ ) ok_X10_fails lm_X10_101 dX10_moveChord_36 rfl (wM_ok _ _ _ _ _ _ _ _ _ _ _ _ _ _ _ _ _ _ _ _ _ _) (Eq.refl 10) (wM_ok _ _ _ _ _ _ _ _ _ _ _ _ _ _ _ _ _ _ _ _ _ _) rfl rfl (Nat.le_of_ble_eq_true rfl) rfl rfl rfl rfl (by decide) (Nat.le_of_ble_eq_true rfl) rfl (by decide) (by decide) rfl rfl ?_
    show Wa _ _ _ _ _ _ _ _ [_] _ _ _
    refine wa_iret dX10_moveChord_39 rfl (by decide) (by decide) ?_
    first | (exfalso; omega) | exact zD_i rfl rfl
  · have h10 := ite1 c10
    have l9 := zln i h10.1 h10.2
    have e1 := zT1 (s.2.2.1 (i * 5 + 0) + 1) (by omega) (by omega)
    have e2 := zT1 (s.2.2.1 (i * 5 + 0)) (by omega) (by omega)
    have f0 : v (210 + 5 * i) = s.2.2.1 (i * 5 + 0) := by have := Vr_F hv (i := i) (f := 0) h10 (by omega); rwa [Int.add_zero] at this
    refine wa_iload_n (pc' := 14) dX10_moveChord_13 rfl rfl rfl ?_
    refine wa_iconst (pc' := 15) dX10_moveChord_14 rfl ?_
    refine wa_aload_n (pc' := 16) dX10_moveChord_15 rfl rfl rfl ?_
    refine wa_aload_n (pc' := 17) dX10_moveChord_16 rfl rfl rfl ?_
    refine wa_getfield (pc' := 20) (j := 0) zc_X10 lk_X10_7 dX10_moveChord_17 rfl (by decide) rfl rfl ?_
    refine wa_iload_n (pc' := 21) dX10_moveChord_20 rfl rfl rfl ?_
    refine wa_dS (pc' := 24) (w' := [_, _, _, _, _, _, _, _, _, _]) (k_X10_chord i (by omega)) ok_X10_chord lm_X10_94 dX10_moveChord_21 rfl [] rfl (by decide) rfl rfl (by decide) (Nat.le_of_ble_eq_true rfl) rfl (by decide) (by decide) rfl rfl rfl ?_
    refine wa_iaload (pc' := 25) dX10_moveChord_24 rfl rfl (by omega) (by omega) (by decide) ?_
    rw [f0]
    refine wa_rI2 (pc' := 28) (st := [_, _]) (k_X10_lengthOf s _ _ _ _ _ _ _ _ _ _ _ _ _ _ _ _ _ _ _ _ _ _ _ hs hv (by omega) ) ok_X10_lengthOf lm_X10_120 dX10_moveChord_25 rfl (wM_ok _ _ _ _ _ _ _ _ _ _ _ _ _ _ _ _ _ _ _ _ _ _) rfl rfl (Nat.le_of_ble_eq_true rfl) rfl rfl rfl rfl (by decide) (Nat.le_of_ble_eq_true rfl) rfl (by decide) (by decide) rfl rfl ?_
    refine wa_dS (pc' := 31) (w' := [_, _, _, _, _, _, _, _, _, _]) (k_X10_in _ _ _ (by omega) (by omega) (by omega) ) ok_X10_in lm_X10_97 dX10_moveChord_28 rfl [] rfl (by decide) rfl rfl (by decide) (Nat.le_of_ble_eq_true rfl) rfl (by decide) (by decide) rfl rfl rfl ?_
    refine wa_if_ne (tgt := 40) (pc' := 34) dX10_moveChord_31 (by decide) rfl (by split <;> omega) (fun c31 => ?_) (fun c31 => ?_)
    · exact absurd ⟨h10, ite1 c31⟩ hc
    · refine wa_aload_n (pc' := 35) dX10_moveChord_34 rfl rfl rfl ?_
      refine wa_iconst (pc' := 36) dX10_moveChord_35 rfl ?_
      refine wa_iD2 (pc' := 39) (st := []) (k_X10_fails _ _ _ _ _ _ _ _ _ _ _ _ _ _ _ _ _ _ _ _ _ _ _ ) ok_X10_fails lm_X10_101 dX10_moveChord_36 rfl (wM_ok _ _ _ _ _ _ _ _ _ _ _ _ _ _ _ _ _ _ _ _ _ _) (Eq.refl 10) (wM_ok _ _ _ _ _ _ _ _ _ _ _ _ _ _ _ _ _ _ _ _ _ _) rfl rfl (Nat.le_of_ble_eq_true rfl) rfl rfl rfl rfl (by decide) (Nat.le_of_ble_eq_true rfl) rfl (by decide) (by decide) rfl rfl ?_
      show Wa _ _ _ _ _ _ _ _ [_] _ _ _
      refine wa_iret dX10_moveChord_39 rfl (by decide) (by decide) ?_
      first | (exfalso; omega) | exact zD_i rfl rfl

set_option maxRecDepth 10000 in
set_option maxHeartbeats 1000000 in
theorem k_X10_moveChord1 (s : zSh) (v pa : Int → Int) (sn : Int) (tx : Int → Int) (ty si fl wi th ap nt rr rq rb wh : Int) (md na : Int → Int) (nd : Int) (up lo : Int → Int) (us lw : Int) (i : Int) (k : Int) (hs : okW s) (hv : Vr s v) (hsn : 0 ≤ sn ∧ sn ≤ 8)(hi : zin i) (hk : zin k) (hc : (0 ≤ i ∧ i < s.2.2.2.2.1) ∧ (0 ≤ k ∧ k ≤ s.2.1 (s.2.2.1 (i * 5 + 0) + 1) - s.2.1 (s.2.2.1 (i * 5 + 0)))) : zMet q_X10_moveChord 3 0 0 [zR 0, zI i, zI k] (wM v pa sn tx ty si fl wi th ap nt rr rq rb wh md na nd up lo us lw) (zD (some (zI ((cUT (outF s.2.2.1 i s.2.2.2.2.1) (s.2.2.1 (i * 5 + 0)) k (s.2.2.2.2.1 - 1).toNat 0)))) (wM (insV (cloV v i s.2.2.2.2.1) (cUT (outF s.2.2.1 i s.2.2.2.2.1) (s.2.2.1 (i * 5 + 0)) k (s.2.2.2.2.1 - 1).toNat 0) (s.2.2.2.2.1 - 1) (s.2.2.1 (i * 5 + 0)) k (s.2.2.1 (i * 5 + 2)) (s.2.2.1 (i * 5 + 3)) (s.2.2.1 (i * 5 + 4))) (actP v sn pa) (if sn = 8 then 8 else sn + 1) tx ty si fl wi 0 ap nt rr rq rb wh md na nd up lo us lw)) := by
  refine z_introF (ls := [(0, _), (1, _), (2, _)]) (by decide +kernel) rfl (fun _ _ => rfl) (fun _ _ => Nat.le_of_ble_eq_true rfl) ?_
  obtain ⟨v0, v1, v2, v3, vT, vF, vL⟩ := id hv
  have hz := hs.1
  obtain ⟨z1, z2, zT1, z4, zF1, zL1⟩ := id hz.1
  have zNm := hz.2.1
  have zg := hz.2.2.1
  have zm := hz.2.2.2.1
  have zln := hz.2.2.2.2
  have vS := Vr_sg hv zm
  have zQ1 := fun i h1 h2 => (zNm i h1 h2).2.1
  have hi9 : 0 ≤ i ∧ i < s.2.2.2.2.1 := hc.1
  have l9 := zln i hi9.1 hi9.2
  have e1 := zT1 (s.2.2.1 (i * 5 + 0) + 1) (by omega) (by omega)
  have e2 := zT1 (s.2.2.1 (i * 5 + 0)) (by omega) (by omega)
  have f0 := Vr_F hv (i := i) (f := 0) hi9 (by omega)
  have f00 : v (210 + 5 * i) = s.2.2.1 (i * 5 + 0) := by have := Vr_F hv (i := i) (f := 0) hi9 (by omega); rwa [Int.add_zero] at this
  have f2 := Vr_F hv (i := i) (f := 2) hi9 (by omega)
  have f3 := Vr_F hv (i := i) (f := 3) hi9 (by omega)
  have f4 := Vr_F hv (i := i) (f := 4) hi9 (by omega)
  have hsO := okW_out hs hi9
  have hvO := Vr_out hv hi9 z4.2 (by omega)
  have hu := cUT_le (outF s.2.2.1 i s.2.2.2.2.1) (s.2.2.1 (i * 5 + 0)) k (s.2.2.2.2.1 - 1).toNat 0
  have hv1 : cloV v i s.2.2.2.2.1 1 = s.2.2.2.2.1 - 1 := hvO.2.1
  refine wa_aload_n (pc' := 1) dX10_moveChord_0 rfl rfl rfl ?_
  refine wa_iconst (pc' := 2) dX10_moveChord_1 rfl ?_
  refine wa_putfield (pc' := 5) (j := 8) (w' := [zO _ [_, _, _, _, _, _, _, _, _, _, _, _, _, _, _, _, _, _, _, _, _, _, _, _], _, _, _, _, _, _, _, _, _]) zc_X10 lk_X10_46 dX10_moveChord_2 rfl (by decide) rfl rfl (Nat.le_of_ble_eq_true rfl) True.intro rfl ?_
  refine wa_aload_n (pc' := 6) dX10_moveChord_5 rfl rfl rfl ?_
  refine wa_iload_n (pc' := 7) dX10_moveChord_6 rfl rfl rfl ?_
  refine wa_rI2 (pc' := 10) (st := []) (k_X10_isChord s _ _ _ _ _ _ _ _ _ _ _ _ _ _ _ _ _ _ _ _ _ _ _ hs hv (by omega) ) ok_X10_isChord lm_X10_127 dX10_moveChord_7 rfl (wM_ok _ _ _ _ _ _ _ _ _ _ _ _ _ _ _ _ _ _ _ _ _ _) rfl rfl (Nat.le_of_ble_eq_true rfl) rfl rfl rfl rfl (by decide) (Nat.le_of_ble_eq_true rfl) rfl (by decide) (by decide) rfl rfl ?_
  refine wa_if_eq (tgt := 34) (pc' := 13) dX10_moveChord_10 (by decide) rfl (by split <;> omega) (fun c10 => ?_) (fun c10 => ?_)
  · exact absurd hc.1 (ite0 c10)
  · refine wa_iload_n (pc' := 14) dX10_moveChord_13 rfl rfl rfl ?_
    refine wa_iconst (pc' := 15) dX10_moveChord_14 rfl ?_
    refine wa_aload_n (pc' := 16) dX10_moveChord_15 rfl rfl rfl ?_
    refine wa_aload_n (pc' := 17) dX10_moveChord_16 rfl rfl rfl ?_
    refine wa_getfield (pc' := 20) (j := 0) zc_X10 lk_X10_7 dX10_moveChord_17 rfl (by decide) rfl rfl ?_
    refine wa_iload_n (pc' := 21) dX10_moveChord_20 rfl rfl rfl ?_
    refine wa_dS (pc' := 24) (w' := [_, _, _, _, _, _, _, _, _, _]) (k_X10_chord i (by omega)) ok_X10_chord lm_X10_94 dX10_moveChord_21 rfl [] rfl (by decide) rfl rfl (by decide) (Nat.le_of_ble_eq_true rfl) rfl (by decide) (by decide) rfl rfl rfl ?_
    refine wa_iaload (pc' := 25) dX10_moveChord_24 rfl rfl (by omega) (by omega) (by decide) ?_
    rw [f00]
    refine wa_rI2 (pc' := 28) (st := [_, _]) (k_X10_lengthOf s _ _ _ _ _ _ _ _ _ _ _ _ _ _ _ _ _ _ _ _ _ _ _ hs hv (by omega) ) ok_X10_lengthOf lm_X10_120 dX10_moveChord_25 rfl (wM_ok _ _ _ _ _ _ _ _ _ _ _ _ _ _ _ _ _ _ _ _ _ _) rfl rfl (Nat.le_of_ble_eq_true rfl) rfl rfl rfl rfl (by decide) (Nat.le_of_ble_eq_true rfl) rfl (by decide) (by decide) rfl rfl ?_
    refine wa_dS (pc' := 31) (w' := [_, _, _, _, _, _, _, _, _, _]) (k_X10_in _ _ _ (by omega) (by omega) (by omega) ) ok_X10_in lm_X10_97 dX10_moveChord_28 rfl [] rfl (by decide) rfl rfl (by decide) (Nat.le_of_ble_eq_true rfl) rfl (by decide) (by decide) rfl rfl rfl ?_
    refine wa_if_ne (tgt := 40) (pc' := 34) dX10_moveChord_31 (by decide) rfl (by split <;> omega) (fun c31 => ?_) (fun c31 => ?_)
    · refine wa_aload_n (pc' := 41) dX10_moveChord_40 rfl rfl rfl ?_
      refine wa_iD2 (pc' := 44) (st := []) (k_X10_acts _ _ _ _ _ _ _ _ _ _ _ _ _ _ _ _ _ _ _ _ _ _ (by omega) ) ok_X10_acts lm_X10_107 dX10_moveChord_41 rfl (wM_ok _ _ _ _ _ _ _ _ _ _ _ _ _ _ _ _ _ _ _ _ _ _) (Eq.refl 10) (wM_ok _ _ _ _ _ _ _ _ _ _ _ _ _ _ _ _ _ _ _ _ _ _) rfl rfl (Nat.le_of_ble_eq_true rfl) rfl rfl rfl rfl (by decide) (Nat.le_of_ble_eq_true rfl) rfl (by decide) (by decide) rfl rfl ?_
      show Wa _ _ _ _ _ _ _ _ [] _ _ _
      refine wa_aload_n (pc' := 45) dX10_moveChord_44 rfl rfl rfl ?_
      refine wa_getfield (pc' := 48) (j := 0) zc_X10 lk_X10_7 dX10_moveChord_45 rfl (by decide) rfl rfl ?_
      refine wa_iload_n (pc' := 49) dX10_moveChord_48 rfl rfl rfl ?_
      refine wa_dS (pc' := 52) (w' := [_, _, _, _, _, _, _, _, _, _]) (k_X10_chord i (by omega)) ok_X10_chord lm_X10_94 dX10_moveChord_49 rfl [] rfl (by decide) rfl rfl (by decide) (Nat.le_of_ble_eq_true rfl) rfl (by decide) (by decide) rfl rfl rfl ?_
      refine wa_iconst (pc' := 53) dX10_moveChord_52 rfl ?_
      refine wa_iadd (pc' := 54) dX10_moveChord_53 rfl ?_
      refine wa_iaload (pc' := 55) dX10_moveChord_54 rfl rfl (by omega) (by omega) (by decide) ?_
      rw [f0]
      refine wa_istore_n (pc' := 56) (ls' := [(3, _), (0, _), (1, _), (2, _)]) dX10_moveChord_55 rfl rfl (by decide) rfl ?_
      refine wa_aload_n (pc' := 57) dX10_moveChord_56 rfl rfl rfl ?_
      refine wa_getfield (pc' := 60) (j := 0) zc_X10 lk_X10_7 dX10_moveChord_57 rfl (by decide) rfl rfl ?_
      refine wa_iload_n (pc' := 61) dX10_moveChord_60 rfl rfl rfl ?_
      refine wa_dS (pc' := 64) (w' := [_, _, _, _, _, _, _, _, _, _]) (k_X10_chord i (by omega)) ok_X10_chord lm_X10_94 dX10_moveChord_61 rfl [] rfl (by decide) rfl rfl (by decide) (Nat.le_of_ble_eq_true rfl) rfl (by decide) (by decide) rfl rfl rfl ?_
      refine wa_iconst (pc' := 65) dX10_moveChord_64 rfl ?_
      refine wa_iadd (pc' := 66) dX10_moveChord_65 rfl ?_
      refine wa_iaload (pc' := 67) dX10_moveChord_66 rfl rfl (by omega) (by omega) (by decide) ?_
      rw [f2]
      refine wa_istore (pc' := 69) (ls' := [(4, _), (3, _), (0, _), (1, _), (2, _)]) dX10_moveChord_67 rfl (by decide) rfl ?_
      refine wa_aload_n (pc' := 70) dX10_moveChord_69 rfl rfl rfl ?_
      refine wa_getfield (pc' := 73) (j := 0) zc_X10 lk_X10_7 dX10_moveChord_70 rfl (by decide) rfl rfl ?_
      refine wa_iload_n (pc' := 74) dX10_moveChord_73 rfl rfl rfl ?_
      refine wa_dS (pc' := 77) (w' := [_, _, _, _, _, _, _, _, _, _]) (k_X10_chord i (by omega)) ok_X10_chord lm_X10_94 dX10_moveChord_74 rfl [] rfl (by decide) rfl rfl (by decide) (Nat.le_of_ble_eq_true rfl) rfl (by decide) (by decide) rfl rfl rfl ?_
      refine wa_iconst (pc' := 78) dX10_moveChord_77 rfl ?_
      refine wa_iadd (pc' := 79) dX10_moveChord_78 rfl ?_
      refine wa_iaload (pc' := 80) dX10_moveChord_79 rfl rfl (by omega) (by omega) (by decide) ?_
      rw [f3]
      refine wa_istore (pc' := 82) (ls' := [(5, _), (4, _), (3, _), (0, _), (1, _), (2, _)]) dX10_moveChord_80 rfl (by decide) rfl ?_
      refine wa_aload_n (pc' := 83) dX10_moveChord_82 rfl rfl rfl ?_
      refine wa_getfield (pc' := 86) (j := 0) zc_X10 lk_X10_7 dX10_moveChord_83 rfl (by decide) rfl rfl ?_
      refine wa_iload_n (pc' := 87) dX10_moveChord_86 rfl rfl rfl ?_
      refine wa_dS (pc' := 90) (w' := [_, _, _, _, _, _, _, _, _, _]) (k_X10_chord i (by omega)) ok_X10_chord lm_X10_94 dX10_moveChord_87 rfl [] rfl (by decide) rfl rfl (by decide) (Nat.le_of_ble_eq_true rfl) rfl (by decide) (by decide) rfl rfl rfl ?_
      refine wa_iconst (pc' := 91) dX10_moveChord_90 rfl ?_
      refine wa_iadd (pc' := 92) dX10_moveChord_91 rfl ?_
      refine wa_iaload (pc' := 93) dX10_moveChord_92 rfl rfl (by omega) (by omega) (by decide) ?_
      rw [f4]
      refine wa_istore (pc' := 95) (ls' := [(6, _), (5, _), (4, _), (3, _), (0, _), (1, _), (2, _)]) dX10_moveChord_93 rfl (by decide) rfl ?_
      refine wa_aload_n (pc' := 96) dX10_moveChord_95 rfl rfl rfl ?_
      refine wa_iload_n (pc' := 97) dX10_moveChord_96 rfl rfl rfl ?_
      refine wa_iD2 (pc' := 100) (st := []) (k_X10_closes _ _ _ _ _ _ _ _ _ _ _ _ _ _ _ _ _ _ _ _ _ _ i s.2.2.2.2.1 v1 hi9 (by omega)) ok_X10_closes lm_X10_158 dX10_moveChord_97 rfl (wM_ok _ _ _ _ _ _ _ _ _ _ _ _ _ _ _ _ _ _ _ _ _ _) (Eq.refl 10) (wM_ok _ _ _ _ _ _ _ _ _ _ _ _ _ _ _ _ _ _ _ _ _ _) rfl rfl (Nat.le_of_ble_eq_true rfl) rfl rfl rfl rfl (by decide) (Nat.le_of_ble_eq_true rfl) rfl (by decide) (by decide) rfl rfl ?_
      show Wa _ _ _ _ _ _ _ _ [] _ _ _
      show Wa _ _ _ _ _ _ _ _ [] (wM ((cloV v i s.2.2.2.2.1)) (actP v sn pa) (if sn = 8 then 8 else sn + 1) tx ty si fl wi 0 ap nt rr rq rb wh md na nd up lo us lw) _ _
      refine wa_aload_n (pc' := 101) dX10_moveChord_100 rfl rfl rfl ?_
      refine wa_iload_n (pc' := 102) dX10_moveChord_101 rfl rfl rfl ?_
      refine wa_iload_n (pc' := 103) dX10_moveChord_102 rfl rfl rfl ?_
      refine wa_rI2 (pc' := 106) (st := []) (k_X10_comesTo (sO s i) _ _ _ _ _ _ _ _ _ _ _ _ _ _ _ _ _ _ _ _ _ _ (s.2.2.1 (i * 5 + 0)) k hsO hvO (by omega) (by omega)) ok_X10_comesTo lm_X10_152 dX10_moveChord_103 rfl (wM_ok _ _ _ _ _ _ _ _ _ _ _ _ _ _ _ _ _ _ _ _ _ _) rfl rfl (Nat.le_of_ble_eq_true rfl) rfl rfl rfl rfl (by decide) (Nat.le_of_ble_eq_true rfl) rfl (by decide) (by decide) rfl rfl ?_
      show Wa _ _ _ _ _ _ _ _ [zI (cUT (outF s.2.2.1 i s.2.2.2.2.1) (s.2.2.1 (i * 5 + 0)) k (s.2.2.2.2.1 - 1).toNat 0)] _ _ _
      refine wa_istore (pc' := 108) (ls' := [(7, _), (6, _), (5, _), (4, _), (3, _), (0, _), (1, _), (2, _)]) dX10_moveChord_106 rfl (by decide) rfl ?_
      refine wa_aload_n (pc' := 109) dX10_moveChord_108 rfl rfl rfl ?_
      refine wa_iload (pc' := 111) dX10_moveChord_109 rfl rfl ?_
      refine wa_iD2 (pc' := 114) (st := []) (k_X10_opens _ _ _ _ _ _ _ _ _ _ _ _ _ _ _ _ _ _ _ _ _ _ (cUT (outF s.2.2.1 i s.2.2.2.2.1) (s.2.2.1 (i * 5 + 0)) k (s.2.2.2.2.1 - 1).toNat 0) (s.2.2.2.2.1 - 1) hv1 (by omega) (by omega)) ok_X10_opens lm_X10_155 dX10_moveChord_111 rfl (wM_ok _ _ _ _ _ _ _ _ _ _ _ _ _ _ _ _ _ _ _ _ _ _) (Eq.refl 10) (wM_ok _ _ _ _ _ _ _ _ _ _ _ _ _ _ _ _ _ _ _ _ _ _) rfl rfl (Nat.le_of_ble_eq_true rfl) rfl rfl rfl rfl (by decide) (Nat.le_of_ble_eq_true rfl) rfl (by decide) (by decide) rfl rfl ?_
      show Wa _ _ _ _ _ _ _ _ [] _ _ _
      refine wa_aload_n (pc' := 115) dX10_moveChord_114 rfl rfl rfl ?_
      refine wa_getfield (pc' := 118) (j := 0) zc_X10 lk_X10_7 dX10_moveChord_115 rfl (by decide) rfl rfl ?_
      refine wa_iload (pc' := 120) dX10_moveChord_118 rfl rfl ?_
      refine wa_dS (pc' := 123) (w' := [_, _, _, _, _, _, _, _, _, _]) (k_X10_chord (cUT (outF s.2.2.1 i s.2.2.2.2.1) (s.2.2.1 (i * 5 + 0)) k (s.2.2.2.2.1 - 1).toNat 0) (by omega)) ok_X10_chord lm_X10_94 dX10_moveChord_120 rfl [] rfl (by decide) rfl rfl (by decide) (Nat.le_of_ble_eq_true rfl) rfl (by decide) (by decide) rfl rfl rfl ?_
      refine wa_iconst (pc' := 124) dX10_moveChord_123 rfl ?_
      refine wa_iadd (pc' := 125) dX10_moveChord_124 rfl ?_
      refine wa_iload_n (pc' := 126) dX10_moveChord_125 rfl rfl rfl ?_
      refine wa_iastore (pc' := 127) (w' := [_, zA _ _ _, _, _, _, _, _, _, _, _]) dX10_moveChord_126 rfl rfl (by omega) (by omega) (by decide) rfl ?_
      refine wa_aload_n (pc' := 128) dX10_moveChord_127 rfl rfl rfl ?_
      refine wa_getfield (pc' := 131) (j := 0) zc_X10 lk_X10_7 dX10_moveChord_128 rfl (by decide) rfl rfl ?_
      refine wa_iload (pc' := 133) dX10_moveChord_131 rfl rfl ?_
      refine wa_dS (pc' := 136) (w' := [_, _, _, _, _, _, _, _, _, _]) (k_X10_chord (cUT (outF s.2.2.1 i s.2.2.2.2.1) (s.2.2.1 (i * 5 + 0)) k (s.2.2.2.2.1 - 1).toNat 0) (by omega)) ok_X10_chord lm_X10_94 dX10_moveChord_133 rfl [] rfl (by decide) rfl rfl (by decide) (Nat.le_of_ble_eq_true rfl) rfl (by decide) (by decide) rfl rfl rfl ?_
      refine wa_iconst (pc' := 137) dX10_moveChord_136 rfl ?_
      refine wa_iadd (pc' := 138) dX10_moveChord_137 rfl ?_
      refine wa_iload_n (pc' := 139) dX10_moveChord_138 rfl rfl rfl ?_
      refine wa_iastore (pc' := 140) (w' := [_, zA _ _ _, _, _, _, _, _, _, _, _]) dX10_moveChord_139 rfl rfl (by omega) (by omega) (by decide) rfl ?_
      refine wa_aload_n (pc' := 141) dX10_moveChord_140 rfl rfl rfl ?_
      refine wa_getfield (pc' := 144) (j := 0) zc_X10 lk_X10_7 dX10_moveChord_141 rfl (by decide) rfl rfl ?_
      refine wa_iload (pc' := 146) dX10_moveChord_144 rfl rfl ?_
      refine wa_dS (pc' := 149) (w' := [_, _, _, _, _, _, _, _, _, _]) (k_X10_chord (cUT (outF s.2.2.1 i s.2.2.2.2.1) (s.2.2.1 (i * 5 + 0)) k (s.2.2.2.2.1 - 1).toNat 0) (by omega)) ok_X10_chord lm_X10_94 dX10_moveChord_146 rfl [] rfl (by decide) rfl rfl (by decide) (Nat.le_of_ble_eq_true rfl) rfl (by decide) (by decide) rfl rfl rfl ?_
      refine wa_iconst (pc' := 150) dX10_moveChord_149 rfl ?_
      refine wa_iadd (pc' := 151) dX10_moveChord_150 rfl ?_
      refine wa_iload (pc' := 153) dX10_moveChord_151 rfl rfl ?_
      refine wa_iastore (pc' := 154) (w' := [_, zA _ _ _, _, _, _, _, _, _, _, _]) dX10_moveChord_153 rfl rfl (by omega) (by omega) (by decide) rfl ?_
      refine wa_aload_n (pc' := 155) dX10_moveChord_154 rfl rfl rfl ?_
      refine wa_getfield (pc' := 158) (j := 0) zc_X10 lk_X10_7 dX10_moveChord_155 rfl (by decide) rfl rfl ?_
      refine wa_iload (pc' := 160) dX10_moveChord_158 rfl rfl ?_
      refine wa_dS (pc' := 163) (w' := [_, _, _, _, _, _, _, _, _, _]) (k_X10_chord (cUT (outF s.2.2.1 i s.2.2.2.2.1) (s.2.2.1 (i * 5 + 0)) k (s.2.2.2.2.1 - 1).toNat 0) (by omega)) ok_X10_chord lm_X10_94 dX10_moveChord_160 rfl [] rfl (by decide) rfl rfl (by decide) (Nat.le_of_ble_eq_true rfl) rfl (by decide) (by decide) rfl rfl rfl ?_
      refine wa_iconst (pc' := 164) dX10_moveChord_163 rfl ?_
      refine wa_iadd (pc' := 165) dX10_moveChord_164 rfl ?_
      refine wa_iload (pc' := 167) dX10_moveChord_165 rfl rfl ?_
      refine wa_iastore (pc' := 168) (w' := [_, zA _ _ _, _, _, _, _, _, _, _, _]) dX10_moveChord_167 rfl rfl (by omega) (by omega) (by decide) rfl ?_
      refine wa_aload_n (pc' := 169) dX10_moveChord_168 rfl rfl rfl ?_
      refine wa_getfield (pc' := 172) (j := 0) zc_X10 lk_X10_7 dX10_moveChord_169 rfl (by decide) rfl rfl ?_
      refine wa_iload (pc' := 174) dX10_moveChord_172 rfl rfl ?_
      refine wa_dS (pc' := 177) (w' := [_, _, _, _, _, _, _, _, _, _]) (k_X10_chord (cUT (outF s.2.2.1 i s.2.2.2.2.1) (s.2.2.1 (i * 5 + 0)) k (s.2.2.2.2.1 - 1).toNat 0) (by omega)) ok_X10_chord lm_X10_94 dX10_moveChord_174 rfl [] rfl (by decide) rfl rfl (by decide) (Nat.le_of_ble_eq_true rfl) rfl (by decide) (by decide) rfl rfl rfl ?_
      refine wa_iconst (pc' := 178) dX10_moveChord_177 rfl ?_
      refine wa_iadd (pc' := 179) dX10_moveChord_178 rfl ?_
      refine wa_iload (pc' := 181) dX10_moveChord_179 rfl rfl ?_
      refine wa_iastore (pc' := 182) (w' := [_, zA _ _ _, _, _, _, _, _, _, _, _]) dX10_moveChord_181 rfl rfl (by omega) (by omega) (by decide) rfl ?_
      refine wa_iload (pc' := 184) dX10_moveChord_182 rfl rfl ?_
      refine wa_iret dX10_moveChord_184 rfl (by decide) (by decide) ?_
      first | (exfalso; omega) | exact zD_i rfl rfl
    · exact absurd hc.2 (ite0 c31)

