/-! the reference: chords put in and taken out -/
theorem opR_e : ∀ (m : Nat) (k : Int) (f : Int → Int), opR m k f = fun j => if k - m < j ∧ j ≤ k then f (j - 5) else f j
  | 0, k, f => by
    funext j
    rw [if_neg (by omega)]
    rfl
  | m + 1, k, f => by
    rw [opR, opR_e m (k - 1)]
    funext j
    show (if k - 1 - m < j ∧ j ≤ k - 1 then (if j - 5 = k then f (k - 5) else f (j - 5)) else (if j = k then f (k - 5) else f j)) = _
    by_cases h1 : k - 1 - m < j ∧ j ≤ k - 1
    · rw [if_pos h1, if_neg (by omega), if_pos (by omega)]
    · rw [if_neg h1]
      by_cases h2 : j = k
      · rw [if_pos h2, if_pos (by omega), h2]
      · rw [if_neg h2, if_neg (by omega)]
theorem clR_e : ∀ (m : Nat) (k : Int) (f : Int → Int), clR m k f = fun j => if k ≤ j ∧ j < k + m then f (j + 5) else f j
  | 0, k, f => by
    funext j
    rw [if_neg (by omega)]
    rfl
  | m + 1, k, f => by
    rw [clR, clR_e m (k + 1)]
    funext j
    show (if k + 1 ≤ j ∧ j < k + 1 + m then (if j + 5 = k then f (k + 5) else f (j + 5)) else (if j = k then f (k + 5) else f j)) = _
    by_cases h1 : k + 1 ≤ j ∧ j < k + 1 + m
    · rw [if_pos h1, if_neg (by omega), if_pos (by omega)]
    · rw [if_neg h1]
      by_cases h2 : j = k
      · rw [if_pos h2, if_pos (by omega), h2]
      · rw [if_neg h2, if_neg (by omega)]
theorem clZ_e (c : Int) : ∀ (m : Nat) (k : Int) (f : Int → Int), clZ c m k f = fun j => if 210 + 5 * c + k ≤ j ∧ j < 210 + 5 * c + k + m then 0 else f j
  | 0, k, f => by
    funext j
    rw [if_neg (by omega)]
    rfl
  | m + 1, k, f => by
    rw [clZ, clZ_e c m (k + 1)]
    funext j
    show (if 210 + 5 * c + (k + 1) ≤ j ∧ j < 210 + 5 * c + (k + 1) + m then 0 else (if j = 210 + 5 * c + k then 0 else f j)) = _
    by_cases h1 : 210 + 5 * c + (k + 1) ≤ j ∧ j < 210 + 5 * c + (k + 1) + m
    · rw [if_pos h1, if_pos (by omega)]
    · rw [if_neg h1]
      by_cases h2 : j = 210 + 5 * c + k
      · rw [if_pos h2, if_pos (by omega)]
      · rw [if_neg h2, if_neg (by omega)]
def cloV (v : Int → Int) (i c : Int) : Int → Int := clZ (c - 1) 5 0 (clR (5 * (c - 1 - i)).toNat (210 + 5 * i) (zup v 1 (c - 1)))
theorem cloV_e {v : Int → Int} {i c : Int} (hi : 0 ≤ i ∧ i < c) (j : Int) : cloV v i c j = if 210 + 5 * (c - 1) ≤ j ∧ j < 210 + 5 * c then 0 else if 210 + 5 * i ≤ j ∧ j < 210 + 5 * (c - 1) then v (j + 5) else if j = 1 then c - 1 else v j := by
  unfold cloV
  rw [clZ_e, clR_e]
  show (if _ then (0 : Int) else if _ then (if j + 5 = 1 then c - 1 else v (j + 5)) else (if j = 1 then c - 1 else v j)) = _
  by_cases h1 : 210 + 5 * (c - 1) ≤ j ∧ j < 210 + 5 * c
  · rw [if_pos h1, if_pos (by omega)]
  · rw [if_neg h1, if_neg (by omega)]
    by_cases h2 : 210 + 5 * i ≤ j ∧ j < 210 + 5 * (c - 1)
    · rw [if_pos h2, if_pos (by omega), if_neg (by omega)]
    · rw [if_neg h2, if_neg (by omega)]
theorem outF_e (F : Int → Int) (i c j : Int) : outF F i c j = if i * 5 ≤ j ∧ j < (c - 1) * 5 then F (j + 5) else F j := by
  unfold outF zcpy
  by_cases h : i * 5 ≤ j ∧ j < (c - 1) * 5
  · rw [if_pos h, if_pos (by omega), show (i + 1) * 5 + (j - i * 5) = j + 5 by omega]
  · rw [if_neg h, if_neg (by omega)]
abbrev sO (s : zSh) (i : Int) : zSh := (s.1, s.2.1, outF s.2.2.1 i s.2.2.2.2.1, s.2.2.2.1, s.2.2.2.2.1 - 1, s.2.2.2.2.2.1, s.2.2.2.2.2.2)
theorem Vr_out {s : zSh} {v : Int → Int} (h : Vr s v) {i : Int} (hi : 0 ≤ i ∧ i < s.2.2.2.2.1) (hc : s.2.2.2.2.1 ≤ 40) (hlc : s.2.2.2.1 ≤ 201) : Vr (sO s i) (cloV v i s.2.2.2.2.1) := by
  obtain ⟨h0, h1, h2, h3, hT, hF, hL⟩ := h
  refine ⟨?_, ?_, ?_, ?_, ?_, ?_, ?_⟩
  · rw [cloV_e hi, if_neg (by omega), if_neg (by omega), if_neg (by omega)]; exact h0
  · rw [cloV_e hi, if_neg (by omega), if_neg (by omega), if_pos rfl]
  · rw [cloV_e hi, if_neg (by omega), if_neg (by omega), if_neg (by omega)]; exact h2
  · rw [cloV_e hi, if_neg (by omega), if_neg (by omega), if_neg (by omega)]; exact h3
  · intro k k0 k1
    have k1 : k ≤ s.2.2.2.1 := k1
    rw [cloV_e hi, if_neg (by omega), if_neg (by omega), if_neg (by omega)]; exact hT k k0 k1
  · intro t t0 t1
    have t1 : t < 5 * (s.2.2.2.2.1 - 1) := t1
    show _ = outF s.2.2.1 i s.2.2.2.2.1 t
    rw [cloV_e hi, outF_e, if_neg (by omega)]
    by_cases h9 : i * 5 ≤ t ∧ t < (s.2.2.2.2.1 - 1) * 5
    · rw [if_pos h9, if_pos (by omega), show 210 + t + 5 = 210 + (t + 5) by omega]; exact hF _ (by omega) (by omega)
    · rw [if_neg h9, if_neg (by omega), if_neg (by omega)]; exact hF t t0 (by omega)
  · intro j j0 j1
    rw [cloV_e hi, if_neg (by omega), if_neg (by omega), if_neg (by omega)]; exact hL j j0 j1
theorem outF_at (F : Int → Int) {i c j f : Int} (hj : 0 ≤ j ∧ j < c - 1) (hf : 0 ≤ f ∧ f < 5) : outF F i c (j * 5 + f) = F ((if j < i then j else j + 1) * 5 + f) := by
  rw [outF_e]
  by_cases h : j < i
  · rw [if_pos h, if_neg (by omega)]
  · rw [if_neg h, if_pos (by omega), show j * 5 + f + 5 = (j + 1) * 5 + f by omega]
theorem okW_out {s : zSh} (h : okW s) {i : Int} (hi : 0 ≤ i ∧ i < s.2.2.2.2.1) : okW (sO s i) := by
  obtain ⟨⟨hD, hn, hg, hm, hl⟩, g0, gT, gC, gS⟩ := h
  have hc := hD.2.2.2.1
  have hk : ∀ j : Int, 0 ≤ j → j < s.2.2.2.2.1 - 1 → 0 ≤ (if j < i then j else j + 1) ∧ (if j < i then j else j + 1) < s.2.2.2.2.1 := by
    intro j j0 j1
    split <;> omega
  refine ⟨⟨⟨hD.1, hD.2.1, hD.2.2.1, ⟨by show 0 ≤ s.2.2.2.2.1 - 1; omega, by show s.2.2.2.2.1 - 1 ≤ 40; omega⟩, outF_b hD.2.2.2.2.1 hi hc.2, hD.2.2.2.2.2⟩, ?_, hg, hm, ?_⟩, g0, gT, ?_, ?_⟩
  · intro j j0 j1
    have j1 : j < s.2.2.2.2.1 - 1 := j1
    have h2 := hn _ (hk j j0 j1).1 (hk j j0 j1).2
    show (-9 ≤ outF s.2.2.1 i s.2.2.2.2.1 (j * 5 + 2) ∧ outF s.2.2.1 i s.2.2.2.2.1 (j * 5 + 2) ≤ 14) ∧ (0 ≤ outF s.2.2.1 i s.2.2.2.2.1 (j * 5 + 3) ∧ outF s.2.2.1 i s.2.2.2.2.1 (j * 5 + 3) < 10) ∧ (outF s.2.2.1 i s.2.2.2.2.1 (j * 5 + 4) = 100 ∨ (-9 ≤ outF s.2.2.1 i s.2.2.2.2.1 (j * 5 + 4) ∧ outF s.2.2.1 i s.2.2.2.2.1 (j * 5 + 4) ≤ 14))
    rw [outF_at _ ⟨j0, j1⟩ (by omega), outF_at _ ⟨j0, j1⟩ (by omega), outF_at _ ⟨j0, j1⟩ (by omega)]
    exact h2
  · intro j j0 j1
    have j1 : j < s.2.2.2.2.1 - 1 := j1
    have h2 := hl _ (hk j j0 j1).1 (hk j j0 j1).2
    show 0 ≤ outF s.2.2.1 i s.2.2.2.2.1 (j * 5 + 0) ∧ outF s.2.2.1 i s.2.2.2.2.1 (j * 5 + 0) < _
    rw [outF_at _ ⟨j0, j1⟩ (by omega)]
    exact h2
  · intro j j0 j1
    have j1 : j < s.2.2.2.2.1 - 1 := j1
    have h2 := gC _ (hk j j0 j1).1 (hk j j0 j1).2
    show 0 ≤ outF s.2.2.1 i s.2.2.2.2.1 (j * 5 + 1) ∧ outF s.2.2.1 i s.2.2.2.2.1 (j * 5 + 1) ≤ s.2.1 (outF s.2.2.1 i s.2.2.2.2.1 (j * 5 + 0) + 1) - s.2.1 (outF s.2.2.1 i s.2.2.2.2.1 (j * 5 + 0))
    rw [outF_at _ ⟨j0, j1⟩ (by omega), outF_at _ ⟨j0, j1⟩ (by omega)]
    exact h2
  · intro a b a0 ab b1
    have b1 : b < s.2.2.2.2.1 - 1 := b1
    have h2 := gS (if a < i then a else a + 1) (if b < i then b else b + 1) (hk a a0 (by omega)).1 (by split <;> split <;> omega) (hk b (by omega) b1).2
    show outF s.2.2.1 i s.2.2.2.2.1 (a * 5 + 0) < outF s.2.2.1 i s.2.2.2.2.1 (b * 5 + 0) ∨ (outF s.2.2.1 i s.2.2.2.2.1 (a * 5 + 0) = outF s.2.2.1 i s.2.2.2.2.1 (b * 5 + 0) ∧ outF s.2.2.1 i s.2.2.2.2.1 (a * 5 + 1) ≤ outF s.2.2.1 i s.2.2.2.2.1 (b * 5 + 1))
    rw [outF_at _ ⟨a0, by omega⟩ (by omega), outF_at _ ⟨by omega, b1⟩ (by omega), outF_at _ ⟨a0, by omega⟩ (by omega), outF_at _ ⟨by omega, b1⟩ (by omega)]
    exact h2
/-- a place opened and filled -/
def insV (v : Int → Int) (i c l k r q b : Int) : Int → Int := zup (zup (zup (zup (zup (zup (opR (5 * (c - i)).toNat (210 + 5 * c + 5 - 1) v) 1 ((opR (5 * (c - i)).toNat (210 + 5 * c + 5 - 1) v) 1 + 1)) (210 + 5 * i + 0) l) (210 + 5 * i + 1) k) (210 + 5 * i + 2) r) (210 + 5 * i + 3) q) (210 + 5 * i + 4) b
theorem insV_e {v : Int → Int} {i c l k r q b : Int} (hi : 0 ≤ i ∧ i ≤ c) (j : Int) : insV v i c l k r q b j = if j = 210 + 5 * i + 4 then b else if j = 210 + 5 * i + 3 then q else if j = 210 + 5 * i + 2 then r else if j = 210 + 5 * i + 1 then k else if j = 210 + 5 * i + 0 then l else if j = 1 then v 1 + 1 else if 215 + 5 * i ≤ j ∧ j < 215 + 5 * c then v (j - 5) else v j := by
  unfold insV
  rw [opR_e]
  show (if j = 210 + 5 * i + 4 then b else if j = 210 + 5 * i + 3 then q else if j = 210 + 5 * i + 2 then r else if j = 210 + 5 * i + 1 then k else if j = 210 + 5 * i + 0 then l else if j = 1 then (if _ then _ else v 1) + 1 else if _ then v (j - 5) else v j) = _
  rw [if_neg (show ¬ (210 + 5 * c + 5 - 1 - (((5 * (c - i)).toNat : Nat) : Int) < 1 ∧ (1 : Int) ≤ 210 + 5 * c + 5 - 1) by omega)]
  by_cases h : 215 + 5 * i ≤ j ∧ j < 215 + 5 * c
  · rw [if_pos h, if_pos (show 210 + 5 * c + 5 - 1 - (((5 * (c - i)).toNat : Nat) : Int) < j ∧ j ≤ 210 + 5 * c + 5 - 1 by omega)]
  · rw [if_neg h, if_neg (show ¬ (210 + 5 * c + 5 - 1 - (((5 * (c - i)).toNat : Nat) : Int) < j ∧ j ≤ 210 + 5 * c + 5 - 1) by omega)]
theorem insF_e (F : Int → Int) (i c l k r q b j : Int) : insF F i c l k r q b j = if j = i * 5 + 4 then b else if j = i * 5 + 3 then q else if j = i * 5 + 2 then r else if j = i * 5 + 1 then k else if j = i * 5 + 0 then l else if (i + 1) * 5 ≤ j ∧ j < (c + 1) * 5 then F (j - 5) else F j := by
  unfold insF putF zcpy
  show (if j = i * 5 + 4 then b else if j = i * 5 + 3 then q else if j = i * 5 + 2 then r else if j = i * 5 + 1 then k else if j = i * 5 + 0 then l else if _ then F (i * 5 + (j - (i + 1) * 5)) else F j) = _
  by_cases h : (i + 1) * 5 ≤ j ∧ j < (c + 1) * 5
  · rw [if_pos h, if_pos (show (i + 1) * 5 ≤ j ∧ j < (i + 1) * 5 + (c - i) * 5 by omega), show i * 5 + (j - (i + 1) * 5) = j - 5 by omega]
  · rw [if_neg h, if_neg (show ¬ ((i + 1) * 5 ≤ j ∧ j < (i + 1) * 5 + (c - i) * 5) by omega)]
abbrev sI (s : zSh) (i l k r q b : Int) : zSh := (s.1, s.2.1, insF s.2.2.1 i s.2.2.2.2.1 l k r q b, s.2.2.2.1, s.2.2.2.2.1 + 1, s.2.2.2.2.2.1, s.2.2.2.2.2.2)
theorem Vr_ins {s : zSh} {v : Int → Int} (h : Vr s v) {i l k r q b : Int} (hi : 0 ≤ i ∧ i ≤ s.2.2.2.2.1) (hc : s.2.2.2.2.1 < 40) (hlc : s.2.2.2.1 ≤ 201) : Vr (sI s i l k r q b) (insV v i s.2.2.2.2.1 l k r q b) := by
  obtain ⟨h0, h1, h2, h3, hT, hF, hL⟩ := h
  refine ⟨?_, ?_, ?_, ?_, ?_, ?_, ?_⟩
  · rw [insV_e hi, if_neg (by omega), if_neg (by omega), if_neg (by omega), if_neg (by omega), if_neg (by omega), if_neg (by omega), if_neg (by omega)]; exact h0
  · rw [insV_e hi, if_neg (by omega), if_neg (by omega), if_neg (by omega), if_neg (by omega), if_neg (by omega), if_pos rfl, h1]
  · rw [insV_e hi, if_neg (by omega), if_neg (by omega), if_neg (by omega), if_neg (by omega), if_neg (by omega), if_neg (by omega), if_neg (by omega)]; exact h2
  · rw [insV_e hi, if_neg (by omega), if_neg (by omega), if_neg (by omega), if_neg (by omega), if_neg (by omega), if_neg (by omega), if_neg (by omega)]; exact h3
  · intro k k0 k1
    have k1 : k ≤ s.2.2.2.1 := k1
    rw [insV_e hi, if_neg (by omega), if_neg (by omega), if_neg (by omega), if_neg (by omega), if_neg (by omega), if_neg (by omega), if_neg (by omega)]; exact hT k k0 k1
  · intro t t0 t1
    have t1 : t < 5 * (s.2.2.2.2.1 + 1) := t1
    show _ = insF s.2.2.1 i s.2.2.2.2.1 l k r q b t
    rw [insV_e hi, insF_e]
    by_cases e4 : t = i * 5 + 4
    · rw [if_pos e4, if_pos (by omega)]
    rw [if_neg e4, if_neg (by omega)]
    by_cases e3 : t = i * 5 + 3
    · rw [if_pos e3, if_pos (by omega)]
    rw [if_neg e3, if_neg (by omega)]
    by_cases e2 : t = i * 5 + 2
    · rw [if_pos e2, if_pos (by omega)]
    rw [if_neg e2, if_neg (by omega)]
    by_cases e1 : t = i * 5 + 1
    · rw [if_pos e1, if_pos (by omega)]
    rw [if_neg e1, if_neg (by omega)]
    by_cases e0 : t = i * 5 + 0
    · rw [if_pos e0, if_pos (by omega)]
    rw [if_neg e0, if_neg (by omega), if_neg (by omega)]
    by_cases h9 : (i + 1) * 5 ≤ t ∧ t < (s.2.2.2.2.1 + 1) * 5
    · rw [if_pos h9, if_pos (by omega), show 210 + t - 5 = 210 + (t - 5) by omega]; exact hF _ (by omega) (by omega)
    · rw [if_neg h9, if_neg (by omega)]; exact hF t t0 (by omega)
  · intro j j0 j1
    have j1 : j < s.2.1 s.2.2.2.1 := j1
    rw [insV_e hi, if_neg (by omega), if_neg (by omega), if_neg (by omega), if_neg (by omega), if_neg (by omega), if_neg (by omega), if_neg (by omega)]; exact hL j j0 j1
theorem cUT_up (F : Int → Int) (l k : Int) : ∀ (n : Nat) (i j : Int), i ≤ j → j < cUT F l k n i → (F (j * 5 + 0) < l ∨ (F (j * 5 + 0) = l ∧ F (j * 5 + 1) ≤ k))
  | 0, i, j, h1, h2 => by rw [cUT] at h2; omega
  | n + 1, i, j, h1, h2 => by
    rw [cUT] at h2
    split at h2
    · rename_i h3
      by_cases h4 : j = i
      · rw [h4]; exact h3
      · exact cUT_up F l k n (i + 1) j (by omega) h2
    · omega
theorem cUT_no (F : Int → Int) (l k : Int) : ∀ (n : Nat) (i : Int), cUT F l k n i < i + n → ¬ (F (cUT F l k n i * 5 + 0) < l ∨ (F (cUT F l k n i * 5 + 0) = l ∧ F (cUT F l k n i * 5 + 1) ≤ k))
  | 0, i, h => by rw [cUT] at h; omega
  | n + 1, i, h => by
    rw [cUT] at h ⊢
    split
    · rename_i h3
      rw [if_pos h3] at h
      exact cUT_no F l k n (i + 1) (by omega)
    · rename_i h3
      exact h3
theorem insF_at (F : Int → Int) {i c j l k r q b : Int} (hj : 0 ≤ j ∧ j ≤ c) (h : ¬ j = i) {f : Int} (hf : 0 ≤ f ∧ f < 5) : insF F i c l k r q b (j * 5 + f) = F ((if j < i then j else j - 1) * 5 + f) := by
  rw [insF_e, if_neg (by omega), if_neg (by omega), if_neg (by omega), if_neg (by omega), if_neg (by omega)]
  by_cases h2 : j < i
  · rw [if_pos h2, if_neg (by omega)]
  · rw [if_neg h2, if_pos (by omega), show j * 5 + f - 5 = (j - 1) * 5 + f by omega]
theorem insF_0 (F : Int → Int) (i c l k r q b : Int) : insF F i c l k r q b (i * 5 + 0) = l := by
  rw [insF_e, if_neg (by omega), if_neg (by omega), if_neg (by omega), if_neg (by omega), if_pos rfl]
theorem insF_1 (F : Int → Int) (i c l k r q b : Int) : insF F i c l k r q b (i * 5 + 1) = k := by
  rw [insF_e, if_neg (by omega), if_neg (by omega), if_neg (by omega), if_pos rfl]
theorem insF_2 (F : Int → Int) (i c l k r q b : Int) : insF F i c l k r q b (i * 5 + 2) = r := by
  rw [insF_e, if_neg (by omega), if_neg (by omega), if_pos rfl]
theorem insF_3 (F : Int → Int) (i c l k r q b : Int) : insF F i c l k r q b (i * 5 + 3) = q := by
  rw [insF_e, if_neg (by omega), if_pos rfl]
theorem insF_4 (F : Int → Int) (i c l k r q b : Int) : insF F i c l k r q b (i * 5 + 4) = b := by
  rw [insF_e, if_pos rfl]
theorem okW_ins {s : zSh} (h : okW s) {l k r q b : Int} (hc : s.2.2.2.2.1 < 40) (hl9 : 0 ≤ l ∧ l < s.2.2.2.1) (hk9 : 0 ≤ k ∧ k ≤ s.2.1 (l + 1) - s.2.1 l) (hr : -9 ≤ r ∧ r ≤ 14) (hq : 0 ≤ q ∧ q < 10) (hb : b = 100 ∨ (-9 ≤ b ∧ b ≤ 14)) : okW (sI s (cUT s.2.2.1 l k s.2.2.2.2.1.toNat 0) l k r q b) := by
  obtain ⟨⟨hD, hn, hg, hm, hl⟩, g0, gT, gC, gS⟩ := h
  have c0 := hD.2.2.2.1
  have l0 := hD.1
  have t0 := hD.2.2.1 l (by omega) (by omega)
  have t1 := hD.2.2.1 (l + 1) (by omega) (by omega)
  have hu := cUT_le s.2.2.1 l k s.2.2.2.2.1.toNat 0
  have hup := cUT_up s.2.2.1 l k s.2.2.2.2.1.toNat 0
  have hno := cUT_no s.2.2.1 l k s.2.2.2.2.1.toNat 0
  generalize cUT s.2.2.1 l k s.2.2.2.2.1.toNat 0 = i at hu hup hno ⊢
  have hno2 : ∀ j : Int, i ≤ j → j < s.2.2.2.2.1 → ¬ (s.2.2.1 (j * 5 + 0) < l ∨ (s.2.2.1 (j * 5 + 0) = l ∧ s.2.2.1 (j * 5 + 1) ≤ k)) := by
    intro j j0 j1
    have h1 := hno (by omega)
    by_cases h2 : j = i
    · rw [h2]; exact h1
    · have h3 := gS i j (by omega) (by omega) j1
      omega
  have hix : ∀ j : Int, 0 ≤ j → j < s.2.2.2.2.1 + 1 → ¬ j = i → 0 ≤ (if j < i then j else j - 1) ∧ (if j < i then j else j - 1) < s.2.2.2.2.1 := by
    intro j j0 j1 j2
    split <;> omega
  refine ⟨⟨⟨hD.1, hD.2.1, hD.2.2.1, ⟨by show 0 ≤ s.2.2.2.2.1 + 1; omega, by show s.2.2.2.2.1 + 1 ≤ 40; omega⟩, insF_b hD.2.2.2.2.1 (by omega) hc (by omega) (by omega) (by omega) (by omega) (by omega), hD.2.2.2.2.2⟩, ?_, hg, hm, ?_⟩, g0, gT, ?_, ?_⟩
  · intro j j0 j1
    have j1 : j < s.2.2.2.2.1 + 1 := j1
    show (-9 ≤ insF s.2.2.1 i s.2.2.2.2.1 l k r q b (j * 5 + 2) ∧ insF s.2.2.1 i s.2.2.2.2.1 l k r q b (j * 5 + 2) ≤ 14) ∧ (0 ≤ insF s.2.2.1 i s.2.2.2.2.1 l k r q b (j * 5 + 3) ∧ insF s.2.2.1 i s.2.2.2.2.1 l k r q b (j * 5 + 3) < 10) ∧ (insF s.2.2.1 i s.2.2.2.2.1 l k r q b (j * 5 + 4) = 100 ∨ (-9 ≤ insF s.2.2.1 i s.2.2.2.2.1 l k r q b (j * 5 + 4) ∧ insF s.2.2.1 i s.2.2.2.2.1 l k r q b (j * 5 + 4) ≤ 14))
    by_cases j2 : j = i
    · rw [j2, insF_2, insF_3, insF_4]
      exact ⟨hr, hq, hb⟩
    · rw [insF_at _ ⟨j0, by omega⟩ j2 (by omega), insF_at _ ⟨j0, by omega⟩ j2 (by omega), insF_at _ ⟨j0, by omega⟩ j2 (by omega)]
      exact hn _ (hix j j0 j1 j2).1 (hix j j0 j1 j2).2
  · intro j j0 j1
    have j1 : j < s.2.2.2.2.1 + 1 := j1
    show 0 ≤ insF s.2.2.1 i s.2.2.2.2.1 l k r q b (j * 5 + 0) ∧ insF s.2.2.1 i s.2.2.2.2.1 l k r q b (j * 5 + 0) < _
    by_cases j2 : j = i
    · rw [j2, insF_0]; exact hl9
    · rw [insF_at _ ⟨j0, by omega⟩ j2 (by omega)]
      exact hl _ (hix j j0 j1 j2).1 (hix j j0 j1 j2).2
  · intro j j0 j1
    have j1 : j < s.2.2.2.2.1 + 1 := j1
    show 0 ≤ insF s.2.2.1 i s.2.2.2.2.1 l k r q b (j * 5 + 1) ∧ insF s.2.2.1 i s.2.2.2.2.1 l k r q b (j * 5 + 1) ≤ s.2.1 (insF s.2.2.1 i s.2.2.2.2.1 l k r q b (j * 5 + 0) + 1) - s.2.1 (insF s.2.2.1 i s.2.2.2.2.1 l k r q b (j * 5 + 0))
    by_cases j2 : j = i
    · rw [j2, insF_0, insF_1]; exact hk9
    · rw [insF_at _ ⟨j0, by omega⟩ j2 (by omega), insF_at _ ⟨j0, by omega⟩ j2 (by omega)]
      exact gC _ (hix j j0 j1 j2).1 (hix j j0 j1 j2).2
  · intro x y x0 xy y1
    have y1 : y < s.2.2.2.2.1 + 1 := y1
    show insF s.2.2.1 i s.2.2.2.2.1 l k r q b (x * 5 + 0) < insF s.2.2.1 i s.2.2.2.2.1 l k r q b (y * 5 + 0) ∨ (insF s.2.2.1 i s.2.2.2.2.1 l k r q b (x * 5 + 0) = insF s.2.2.1 i s.2.2.2.2.1 l k r q b (y * 5 + 0) ∧ insF s.2.2.1 i s.2.2.2.2.1 l k r q b (x * 5 + 1) ≤ insF s.2.2.1 i s.2.2.2.2.1 l k r q b (y * 5 + 1))
    by_cases x2 : x = i
    · rw [x2, insF_0, insF_1, insF_at _ ⟨by omega, by omega⟩ (show ¬ y = i by omega) (by omega), insF_at _ ⟨by omega, by omega⟩ (show ¬ y = i by omega) (by omega), if_neg (show ¬ y < i by omega)]
      have := hno2 (y - 1) (by omega) (by omega)
      omega
    · by_cases y2 : y = i
      · rw [y2, insF_0, insF_1, insF_at _ ⟨by omega, by omega⟩ x2 (by omega), insF_at _ ⟨by omega, by omega⟩ x2 (by omega), if_pos (show x < i by omega)]
        exact hup x (by omega) (by omega)
      · rw [insF_at _ ⟨by omega, by omega⟩ x2 (by omega), insF_at _ ⟨by omega, by omega⟩ x2 (by omega), insF_at _ ⟨by omega, by omega⟩ y2 (by omega), insF_at _ ⟨by omega, by omega⟩ y2 (by omega)]
        exact gS _ _ (hix x x0 (by omega) x2).1 (by split <;> split <;> omega) (hix y (by omega) y1 y2).2
