/-! the law of its own: a chord put in, moved, taken out -/
theorem out_ins (F : Int → Int) {i c l k r q b j : Int} (hi : 0 ≤ i ∧ i ≤ c) (hj : 0 ≤ j ∧ j < c * 5) : outF (insF F i c l k r q b) i (c + 1) j = F j := by
  rw [outF_e]
  by_cases h : i * 5 ≤ j ∧ j < (c + 1 - 1) * 5
  · rw [if_pos h, insF_e, if_neg (by omega), if_neg (by omega), if_neg (by omega), if_neg (by omega), if_neg (by omega), if_pos (by omega), show j + 5 - 5 = j by omega]
  · rw [if_neg h, insF_e, if_neg (by omega), if_neg (by omega), if_neg (by omega), if_neg (by omega), if_neg (by omega), if_neg (by omega)]
theorem cUT_cg {F F' : Int → Int} (l k : Int) : ∀ (n : Nat) (i : Int), (∀ j : Int, i ≤ j → j < i + n → F (j * 5 + 0) = F' (j * 5 + 0) ∧ F (j * 5 + 1) = F' (j * 5 + 1)) → cUT F l k n i = cUT F' l k n i
  | 0, i, h => rfl
  | n + 1, i, h => by
    have h1 := h i (by omega) (by omega)
    rw [cUT, cUT, h1.1, h1.2, cUT_cg l k n (i + 1) (fun j j0 j1 => h j (by omega) (by omega))]
theorem cUT_mono (F : Int → Int) (l : Int) {k k' : Int} (hk : k ≤ k') : ∀ (n : Nat) (i : Int), cUT F l k n i ≤ cUT F l k' n i
  | 0, i => Int.le_refl _
  | n + 1, i => by
    have h1 := cUT_mono F l hk n (i + 1)
    have h2 := cUT_le F l k' n (i + 1)
    have h3 := cUT_le F l k n (i + 1)
    rw [cUT, cUT]
    by_cases c : F (i * 5 + 0) < l ∨ (F (i * 5 + 0) = l ∧ F (i * 5 + 1) ≤ k)
    · rw [if_pos c, if_pos (by omega)]
      exact h1
    · rw [if_neg c]
      split <;> omega
/-- what a chord that is put in, moved to the line's end and taken out leaves -/
theorem edit_all {F : Int → Int} {c l k len r q b : Int} (hc : 0 ≤ c) (hk : k ≤ len) : let i := cUT F l k c.toNat 0
    let F1 := insF F i c l k r q b
    let F2 := outF F1 i (c + 1)
    let k2 := cUT F2 l len (c + 1 - 1).toNat 0
    let F3 := insF F2 k2 (c + 1 - 1) l len r q b
    (0 ≤ i ∧ i ≤ c) ∧ (i ≤ k2 ∧ k2 ≤ c) ∧ ∀ j : Int, 0 ≤ j → j < c * 5 → outF F3 k2 (c + 1 - 1 + 1) j = F j := by
  intro i F1 F2 k2 F3
  have hi : 0 ≤ i ∧ i ≤ c := by
    have := cUT_le F l k c.toNat 0
    show 0 ≤ cUT F l k c.toNat 0 ∧ cUT F l k c.toNat 0 ≤ c
    omega
  have hF2 : ∀ j : Int, 0 ≤ j → j < c * 5 → F2 j = F j := fun j j0 j1 => out_ins F hi ⟨j0, j1⟩
  have e2 : k2 = cUT F l len c.toNat 0 := by
    show cUT F2 l len (c + 1 - 1).toNat 0 = _
    rw [show c + 1 - 1 = c by omega]
    exact cUT_cg l len c.toNat 0 (fun j j0 j1 => ⟨hF2 _ (by omega) (by omega), hF2 _ (by omega) (by omega)⟩)
  have hm := cUT_mono F l hk c.toNat 0
  have hk2 : i ≤ k2 ∧ k2 ≤ c := by
    have h1 := cUT_le F l len c.toNat 0
    rw [e2]
    show cUT F l k c.toNat 0 ≤ _ ∧ _
    omega
  refine ⟨hi, hk2, fun j j0 j1 => ?_⟩
  have h5 := out_ins F2 (i := k2) (c := c) (l := l) (k := len) (r := r) (q := q) (b := b) (by omega) (show 0 ≤ j ∧ j < c * 5 by omega)
  show outF (insF F2 k2 (c + 1 - 1) l len r q b) k2 (c + 1 - 1 + 1) j = F j
  rw [show c + 1 - 1 = c by omega, h5]
  exact hF2 j j0 j1
