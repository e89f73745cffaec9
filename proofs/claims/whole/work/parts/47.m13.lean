/-! the reference: the text read -/
theorem mq_qu (g : Int → Int) (p : Int) : ∀ (m : Nat) (q lo fo qu be wh : Int), (fo = 0 ∨ fo = 1) → (fo = 1 → qu = be) → (quR g p m q lo fo qu).1 = (mqR g p m q lo be fo wh).1 ∧ (quR g p m q lo fo qu).2.1 = (mqR g p m q lo be fo wh).2.2.1 ∧ ((quR g p m q lo fo qu).2.1 = 1 → (quR g p m q lo fo qu).2.2 = (mqR g p m q lo be fo wh).2.1)
  | 0, q, lo, fo, qu, be, wh, h1, h2 => ⟨rfl, rfl, h2⟩
  | m + 1, q, lo, fo, qu, be, wh, h1, h2 => by
    rw [quR, mqR]
    generalize shR g p (zBytes.getD q.toNat []) 0 = x
    generalize ((zBytes.getD q.toNat []).length : Int) = n
    by_cases c1 : x > lo
    · rw [if_pos c1, if_pos (show lo < x ∨ _ from Or.inl c1)]
      by_cases c2 : x = n
      · rw [if_pos c2, if_pos c2]
        exact mq_qu g p m (q + 1) x 1 q q 1 (Or.inr rfl) (fun _ => rfl)
      · rw [if_neg c2, if_neg c2]
        exact mq_qu g p m (q + 1) x 0 qu q 0 (Or.inl rfl) (fun h => absurd h (by decide))
    · rw [if_neg c1]
      by_cases c2 : x = lo ∧ x = n
      · rw [if_pos c2, if_pos (show lo < x ∨ (x = lo ∧ (if x = n then (1 : Int) else 0) = 1) from Or.inr ⟨c2.1, if_pos c2.2⟩), if_pos c2.2, ← c2.1]
        exact mq_qu g p m (q + 1) x 1 q q 1 (Or.inr rfl) (fun _ => rfl)
      · rw [if_neg c2, if_neg (show ¬ (lo < x ∨ (x = lo ∧ (if x = n then (1 : Int) else 0) = 1)) from fun h => by
          rcases h with h | ⟨h, h3⟩
          · exact c1 h
          · split at h3
            · rename_i h4; exact c2 ⟨h, h4⟩
            · exact absurd h3 (by decide))]
        exact mq_qu g p m (q + 1) lo fo qu be _ h1 h2
theorem mq_quF (g : Int → Int) (p qu wh : Int) : (quF g p qu).1 = (mqR g p 10 0 0 0 0 wh).1 ∧ (quF g p qu).2.1 = (mqR g p 10 0 0 0 0 wh).2.2.1 ∧ ((quF g p qu).2.1 = 1 → (quF g p qu).2.2 = (mqR g p 10 0 0 0 0 wh).2.1) := by
  have e0 : shR g p (zBytes.getD (0 : Int).toNat []) 0 = 0 := rfl
  have e1 : ((zBytes.getD (0 : Int).toNat []).length : Int) = 0 := rfl
  unfold quF
  rw [quR, mqR, e0, e1, if_pos (show (0 : Int) > -1 by decide), if_pos (show (0 : Int) = 0 from rfl), if_pos (show (0 : Int) = 0 from rfl), if_pos (show (0 : Int) < 0 ∨ ((0 : Int) = 0 ∧ (1 : Int) = 1) from Or.inr ⟨rfl, rfl⟩)]
  exact mq_qu g p 9 (0 + 1) 0 1 0 0 1 (Or.inr rfl) (fun _ => rfl)
/-- the reference reads a chord as the class does -/
theorem mc_ch (g : Int → Int) (e p qu rr rq rb wh : Int) (hq : 0 ≤ qu ∧ qu < 10) : (mcR g e p rr rq rb wh).2.1 = (chR g p qu).1 ∧ ((mcR g e p rr rq rb wh).1 = 1 ↔ ((chR g p qu).2.2.2.2 = 1 ∧ g (chR g p qu).1 = e)) ∧ ((mcR g e p rr rq rb wh).1 = 1 → (mcR g e p rr rq rb wh).2.2.2.1 = (chR g p qu).2.1 ∧ (mcR g e p rr rq rb wh).2.2.2.2.1 = (chR g p qu).2.2.1 ∧ (mcR g e p rr rq rb wh).2.2.2.2.2.1 = (chR g p qu).2.2.2.1) := by
  have hn := ntR_100 g p
  obtain ⟨q1, q2, q3⟩ := mq_quF g (ntR g p).2 qu wh
  have q4 := quF_b g (ntR g p).2 qu hq
  unfold mcR chR
  by_cases c1 : nat9 (g p) = 100
  · rw [if_pos c1, if_pos (hn.mpr c1)]
    exact ⟨rfl, ⟨fun h => absurd h (show ¬ (0 : Int) = 1 by decide), fun h => absurd h.1 (show ¬ (0 : Int) = 1 by decide)⟩, fun h => absurd h (show ¬ (0 : Int) = 1 by decide)⟩
  rw [if_neg c1, if_neg (fun h => c1 (hn.mp h)), ← q1, ← q2]
  by_cases c2 : (quF g (ntR g p).2 qu).2.1 = 0
  · rw [if_pos c2, if_pos c2]
    exact ⟨rfl, ⟨fun h => absurd h (show ¬ (0 : Int) = 1 by decide), fun h => absurd h.1 (show ¬ (0 : Int) = 1 by decide)⟩, fun h => absurd h (show ¬ (0 : Int) = 1 by decide)⟩
  have c3 : (quF g (ntR g p).2 qu).2.1 = 1 := by omega
  rw [if_neg c2, if_neg c2, ← q3 c3]
  generalize (ntR g p).2 + (quF g (ntR g p).2 qu).1 = p2
  have hn2 := ntR_100 g (p2 + 1)
  by_cases c4 : g p2 = 47
  · rw [if_pos c4, if_pos c4]
    by_cases c5 : nat9 (g (p2 + 1)) = 100
    · rw [if_pos c5]
      refine ⟨rfl, ⟨fun h => absurd h (show ¬ (0 : Int) = 1 by decide), fun h => ?_⟩, fun h => absurd h (show ¬ (0 : Int) = 1 by decide)⟩
      have h1 := h.1
      have h2 : (if (ntR g (p2 + 1)).1 = 100 then (0 : Int) else 1) = 1 := h1
      rw [if_pos (hn2.mpr c5)] at h2
      exact absurd h2 (by decide)
    · rw [if_neg c5, if_neg (fun h => c5 (hn2.mp h))]
      refine ⟨rfl, ⟨fun h => ?_, fun h => ?_⟩, fun _ => ⟨rfl, rfl, rfl⟩⟩
      · have h2 : (if g (ntR g (p2 + 1)).2 = e then (1 : Int) else 0) = 1 := h
        split at h2
        · rename_i h3; exact ⟨rfl, h3⟩
        · exact absurd h2 (by decide)
      · exact if_pos h.2
  · rw [if_neg c4, if_neg c4]
    refine ⟨rfl, ⟨fun h => ?_, fun h => ?_⟩, fun _ => ⟨rfl, rfl, rfl⟩⟩
    · have h2 : (if g p2 = e then (1 : Int) else 0) = 1 := h
      split at h2
      · rename_i h3; exact ⟨rfl, h3⟩
      · exact absurd h2 (by decide)
    · exact if_pos h.2
/-- the made row holds the sheet so far -/
def Vm (s : zSh) (v : Int → Int) : Prop := v 0 = s.2.2.2.1 ∧ v 1 = s.2.2.2.2.1 ∧ v 2 = 0 ∧ v 3 = 0 ∧ (∀ k : Int, 0 ≤ k → k < s.2.2.2.1 → v (4 + k) = s.2.1 k) ∧ (∀ t : Int, 0 ≤ t → t < 5 * s.2.2.2.2.1 → v (210 + t) = s.2.2.1 t) ∧ (∀ j : Int, 0 ≤ j → j < s.2.1 s.2.2.2.1 → v (415 + j) = s.1 j)
theorem Vm_add {s : zSh} {v : Int → Int} (h : Vm s v) {i : Int} (hd : okD i s) (c : Int) (hi : i < 200) (hcc : s.2.2.2.2.1 ≤ 40) : Vm (shAdd s c) (zup v (415 + s.2.1 s.2.2.2.1) c) := by
  obtain ⟨h0, h1, h2, h3, hT, hF, hL⟩ := h
  have a1 := hd.1
  have a2 := hd.2.1
  refine ⟨(zup9_ne (by omega)).trans h0, (zup9_ne (by omega)).trans h1, (zup9_ne (by omega)).trans h2, (zup9_ne (by omega)).trans h3, ?_, ?_, ?_⟩
  · intro k k0 k1
    have k1 : k < s.2.2.2.1 := k1
    show zup v (415 + s.2.1 s.2.2.2.1) c (4 + k) = zup s.2.1 s.2.2.2.1 (s.2.1 s.2.2.2.1 + 1) k
    rw [zup9_ne (by omega), zup9_ne (by omega)]
    exact hT k k0 k1
  · intro t t0 t1
    have t1 : t < 5 * s.2.2.2.2.1 := t1
    rw [zup9_ne (by omega)]
    exact hF t t0 t1
  · intro j j0 j1
    have j1 : j < zup s.2.1 s.2.2.2.1 (s.2.1 s.2.2.2.1 + 1) s.2.2.2.1 := j1
    rw [zup9_eq] at j1
    show zup v (415 + s.2.1 s.2.2.2.1) c (415 + j) = zup s.1 (s.2.1 s.2.2.2.1) c j
    by_cases hj : j = s.2.1 s.2.2.2.1
    · rw [hj, zup9_eq, zup9_eq]
    · rw [zup9_ne (by omega), zup9_ne hj]
      exact hL j j0 (by omega)
theorem Vm_line {s : zSh} {v : Int → Int} (h : Vm s v) {i : Int} (hd : okD i s) (hi : i < 200) (hcc : s.2.2.2.2.1 ≤ 40) : Vm (shLine s) (zup (zup v (4 + s.2.2.2.1) (s.2.1 s.2.2.2.1)) 0 (s.2.2.2.1 + 1)) := by
  obtain ⟨h0, h1, h2, h3, hT, hF, hL⟩ := h
  have a1 := hd.1
  have a2 := hd.2.1
  refine ⟨zup9_eq, ?_, ?_, ?_, ?_, ?_, ?_⟩
  · rw [zup9_ne (by omega), zup9_ne (by omega)]; exact h1
  · rw [zup9_ne (by omega), zup9_ne (by omega)]; exact h2
  · rw [zup9_ne (by omega), zup9_ne (by omega)]; exact h3
  · intro k k0 k1
    have k1 : k < s.2.2.2.1 + 1 := k1
    show zup (zup v (4 + s.2.2.2.1) (s.2.1 s.2.2.2.1)) 0 (s.2.2.2.1 + 1) (4 + k) = zup s.2.1 (s.2.2.2.1 + 1) (s.2.1 s.2.2.2.1) k
    rw [zup9_ne (by omega), zup9_ne (show ¬ k = s.2.2.2.1 + 1 by omega)]
    by_cases hk : k = s.2.2.2.1
    · rw [hk, zup9_eq]
    · rw [zup9_ne (by omega)]
      exact hT k k0 (by omega)
  · intro t t0 t1
    have t1 : t < 5 * s.2.2.2.2.1 := t1
    rw [zup9_ne (by omega), zup9_ne (by omega)]
    exact hF t t0 t1
  · intro j j0 j1
    have j1 : j < zup s.2.1 (s.2.2.2.1 + 1) (s.2.1 s.2.2.2.1) (s.2.2.2.1 + 1) := j1
    rw [zup9_eq] at j1
    rw [zup9_ne (by omega), zup9_ne (by omega)]
    exact hL j j0 j1
theorem cUT_all (F : Int → Int) (l k : Int) : ∀ (n : Nat) (i : Int), (∀ j : Int, i ≤ j → j < i + n → (F (j * 5 + 0) < l ∨ (F (j * 5 + 0) = l ∧ F (j * 5 + 1) ≤ k))) → cUT F l k n i = i + n
  | 0, i, h => by rw [cUT]; omega
  | n + 1, i, h => by
    rw [cUT, if_pos (h i (by omega) (by omega)), cUT_all F l k n (i + 1) (fun j j0 j1 => h j (by omega) (by omega))]
    omega
/-- all chords so far come before the end -/
theorem cUT_end {s : zSh} (hw : okW (sK s 0 0)) : cUT s.2.2.1 (s.2.2.2.1 - 1) (s.2.1 (s.2.2.2.1 - 1 + 1) - s.2.1 (s.2.2.2.1 - 1)) s.2.2.2.2.1.toNat 0 = s.2.2.2.2.1 := by
  have hc := hw.1.1.2.2.2.1
  have hc : 0 ≤ s.2.2.2.2.1 ∧ s.2.2.2.2.1 ≤ 40 := hc
  rw [cUT_all]
  · omega
  · intro j j0 j1
    have h1 := hw.1.2.2.2.2 j j0 (by show j < s.2.2.2.2.1; omega)
    have h2 := hw.2.2.2.1 j j0 (by show j < s.2.2.2.2.1; omega)
    have h1 : 0 ≤ s.2.2.1 (j * 5 + 0) ∧ s.2.2.1 (j * 5 + 0) < s.2.2.2.1 := h1
    have h2 : 0 ≤ s.2.2.1 (j * 5 + 1) ∧ s.2.2.1 (j * 5 + 1) ≤ s.2.1 (s.2.2.1 (j * 5 + 0) + 1) - s.2.1 (s.2.2.1 (j * 5 + 0)) := h2
    by_cases h3 : s.2.2.1 (j * 5 + 0) = s.2.2.2.1 - 1
    · rw [h3] at h2
      exact Or.inr ⟨h3, h2.2⟩
    · exact Or.inl (by omega)
theorem Vm_app {s : zSh} {v : Int → Int} (h : Vm s v) (hw : okW (sK s 0 0)) (hcc : s.2.2.2.2.1 < 40) (r q b : Int) : Vm (shApp s r q b) (zup (zup (zup (zup (zup (zup v (210 + 5 * s.2.2.2.2.1 + 0) (s.2.2.2.1 - 1)) (210 + 5 * s.2.2.2.2.1 + 1) (s.2.1 s.2.2.2.1 - s.2.1 (s.2.2.2.1 - 1))) (210 + 5 * s.2.2.2.2.1 + 2) r) (210 + 5 * s.2.2.2.2.1 + 3) q) (210 + 5 * s.2.2.2.2.1 + 4) b) 1 (s.2.2.2.2.1 + 1)) := by
  obtain ⟨h0, h1, h2, h3, hT, hF, hL⟩ := h
  have hc : 0 ≤ s.2.2.2.2.1 ∧ s.2.2.2.2.1 ≤ 40 := hw.1.1.2.2.2.1
  have hlc : 1 ≤ s.2.2.2.1 ∧ s.2.2.2.1 ≤ 200 + 1 := hw.1.1.1
  have hu := cUT_end hw
  unfold shApp
  rw [hu, show s.2.2.2.1 - 1 + 1 = s.2.2.2.1 by omega]
  refine ⟨?_, zup9_eq, ?_, ?_, ?_, ?_, ?_⟩
  · rw [zup9_ne (by omega), zup9_ne (by omega), zup9_ne (by omega), zup9_ne (by omega), zup9_ne (by omega), zup9_ne (by omega)]; exact h0
  · rw [zup9_ne (by omega), zup9_ne (by omega), zup9_ne (by omega), zup9_ne (by omega), zup9_ne (by omega), zup9_ne (by omega)]; exact h2
  · rw [zup9_ne (by omega), zup9_ne (by omega), zup9_ne (by omega), zup9_ne (by omega), zup9_ne (by omega), zup9_ne (by omega)]; exact h3
  · intro k k0 k1
    have k1 : k < s.2.2.2.1 := k1
    rw [zup9_ne (by omega), zup9_ne (by omega), zup9_ne (by omega), zup9_ne (by omega), zup9_ne (by omega), zup9_ne (by omega)]; exact hT k k0 k1
  · intro t t0 t1
    have t1 : t < 5 * (s.2.2.2.2.1 + 1) := t1
    show _ = insF s.2.2.1 s.2.2.2.2.1 s.2.2.2.2.1 (s.2.2.2.1 - 1) (s.2.1 s.2.2.2.1 - s.2.1 (s.2.2.2.1 - 1)) r q b t
    rw [insF_e, zup9_ne (by omega)]
    by_cases e4 : t = s.2.2.2.2.1 * 5 + 4
    · rw [if_pos e4, show 210 + t = 210 + 5 * s.2.2.2.2.1 + 4 by omega, zup9_eq]
    rw [if_neg e4, zup9_ne (by omega)]
    by_cases e3 : t = s.2.2.2.2.1 * 5 + 3
    · rw [if_pos e3, show 210 + t = 210 + 5 * s.2.2.2.2.1 + 3 by omega, zup9_eq]
    rw [if_neg e3, zup9_ne (by omega)]
    by_cases e2 : t = s.2.2.2.2.1 * 5 + 2
    · rw [if_pos e2, show 210 + t = 210 + 5 * s.2.2.2.2.1 + 2 by omega, zup9_eq]
    rw [if_neg e2, zup9_ne (by omega)]
    by_cases e1 : t = s.2.2.2.2.1 * 5 + 1
    · rw [if_pos e1, show 210 + t = 210 + 5 * s.2.2.2.2.1 + 1 by omega, zup9_eq]
    rw [if_neg e1, zup9_ne (by omega)]
    by_cases e0 : t = s.2.2.2.2.1 * 5 + 0
    · rw [if_pos e0, show 210 + t = 210 + 5 * s.2.2.2.2.1 + 0 by omega, zup9_eq]
    rw [if_neg e0, zup9_ne (by omega), if_neg (by omega)]
    exact hF t t0 (by omega)
  · intro j j0 j1
    rw [zup9_ne (by omega), zup9_ne (by omega), zup9_ne (by omega), zup9_ne (by omega), zup9_ne (by omega), zup9_ne (by omega)]; exact hL j j0 j1
theorem okW_app {s : zSh} (hw : okW (sK s 0 0)) (hcc : s.2.2.2.2.1 < 40) {r q b : Int} (hr : -9 ≤ r ∧ r ≤ 14) (hq : 0 ≤ q ∧ q < 10) (hb : b = 100 ∨ (-9 ≤ b ∧ b ≤ 14)) : okW (sK (shApp s r q b) 0 0) := by
  have hlc : 1 ≤ s.2.2.2.1 ∧ s.2.2.2.1 ≤ 200 + 1 := hw.1.1.1
  have hm := hw.2.2.1 (s.2.2.2.1 - 1) (by omega) (by show s.2.2.2.1 - 1 < s.2.2.2.1; omega)
  have hm : s.2.1 (s.2.2.2.1 - 1) ≤ s.2.1 (s.2.2.2.1 - 1 + 1) := hm
  exact okW_ins hw (l := s.2.2.2.1 - 1) (k := s.2.1 (s.2.2.2.1 - 1 + 1) - s.2.1 (s.2.2.2.1 - 1)) hcc (by show 0 ≤ s.2.2.2.1 - 1 ∧ s.2.2.2.1 - 1 < s.2.2.2.1; omega) (by show 0 ≤ s.2.1 (s.2.2.2.1 - 1 + 1) - s.2.1 (s.2.2.2.1 - 1) ∧ s.2.1 (s.2.2.2.1 - 1 + 1) - s.2.1 (s.2.2.2.1 - 1) ≤ s.2.1 (s.2.2.2.1 - 1 + 1) - s.2.1 (s.2.2.2.1 - 1); omega) hr hq hb
theorem okW_add {s : zSh} {i : Int} (hw : okW (sK s 0 0)) (hd : okD i s) (hi : i < 200) (c : Int) (hc : 0 ≤ c ∧ c < 65536) : okW (sK (shAdd s c) 0 0) := by
  obtain ⟨⟨hD, hn, hg, hm, hl⟩, g0, gT, gC, gS⟩ := hw
  have hlc := hd.1
  have hD2 := okD_le (okD_add hd hi c hc) (show i + 1 ≤ 200 by omega)
  have hTz : ∀ k : Int, zup s.2.1 s.2.2.2.1 (s.2.1 s.2.2.2.1 + 1) k = if k = s.2.2.2.1 then s.2.1 s.2.2.2.1 + 1 else s.2.1 k := fun k => rfl
  refine ⟨⟨hD2, hn, hg, hm, hl⟩, ?_, ?_, ?_, gS⟩
  · show zup s.2.1 s.2.2.2.1 (s.2.1 s.2.2.2.1 + 1) 0 = 0
    rw [zup9_ne (by omega)]; exact g0
  · intro k k0 k1
    have k1 : k < s.2.2.2.1 := k1
    have h2 : s.2.1 k ≤ s.2.1 (k + 1) := gT k k0 k1
    show zup s.2.1 s.2.2.2.1 (s.2.1 s.2.2.2.1 + 1) k ≤ zup s.2.1 s.2.2.2.1 (s.2.1 s.2.2.2.1 + 1) (k + 1)
    rw [hTz, hTz, if_neg (by omega)]
    split
    · rename_i h3; rw [← h3]; omega
    · exact h2
  · intro j j0 j1
    have j1 : j < s.2.2.2.2.1 := j1
    have h2 : 0 ≤ s.2.2.1 (j * 5 + 1) ∧ s.2.2.1 (j * 5 + 1) ≤ s.2.1 (s.2.2.1 (j * 5 + 0) + 1) - s.2.1 (s.2.2.1 (j * 5 + 0)) := gC j j0 j1
    have h3 : 0 ≤ s.2.2.1 (j * 5 + 0) ∧ s.2.2.1 (j * 5 + 0) < s.2.2.2.1 := hl j j0 j1
    show 0 ≤ s.2.2.1 (j * 5 + 1) ∧ s.2.2.1 (j * 5 + 1) ≤ zup s.2.1 s.2.2.2.1 (s.2.1 s.2.2.2.1 + 1) (s.2.2.1 (j * 5 + 0) + 1) - zup s.2.1 s.2.2.2.1 (s.2.1 s.2.2.2.1 + 1) (s.2.2.1 (j * 5 + 0))
    rw [hTz, hTz, if_neg (show ¬ s.2.2.1 (j * 5 + 0) = s.2.2.2.1 by omega)]
    split
    · rename_i h4; rw [← h4]; omega
    · exact h2
theorem okW_line {s : zSh} {i : Int} (hw : okW (sK s 0 0)) (hd : okD i s) (hi : i < 200) : okW (sK (shLine s) 0 0) := by
  obtain ⟨⟨hD, hn, hg, hm, hl⟩, g0, gT, gC, gS⟩ := hw
  have hlc := hd.1
  have hD2 := okD_le (okD_line hd hi) (show i + 1 ≤ 200 by omega)
  have hTz : ∀ k : Int, zup s.2.1 (s.2.2.2.1 + 1) (s.2.1 s.2.2.2.1) k = if k = s.2.2.2.1 + 1 then s.2.1 s.2.2.2.1 else s.2.1 k := fun k => rfl
  refine ⟨⟨hD2, hn, hg, hm, ?_⟩, ?_, ?_, ?_, gS⟩
  · intro j j0 j1
    have h3 : 0 ≤ s.2.2.1 (j * 5 + 0) ∧ s.2.2.1 (j * 5 + 0) < s.2.2.2.1 := hl j j0 j1
    show 0 ≤ s.2.2.1 (j * 5 + 0) ∧ s.2.2.1 (j * 5 + 0) < s.2.2.2.1 + 1
    omega
  · show zup s.2.1 (s.2.2.2.1 + 1) (s.2.1 s.2.2.2.1) 0 = 0
    rw [zup9_ne (by omega)]; exact g0
  · intro k k0 k1
    have k1 : k < s.2.2.2.1 + 1 := k1
    show zup s.2.1 (s.2.2.2.1 + 1) (s.2.1 s.2.2.2.1) k ≤ zup s.2.1 (s.2.2.2.1 + 1) (s.2.1 s.2.2.2.1) (k + 1)
    rw [hTz, hTz, if_neg (by omega)]
    split
    · rename_i h3
      rw [show k = s.2.2.2.1 by omega]
      exact Int.le_refl _
    · exact gT k k0 (by show k < s.2.2.2.1; omega)
  · intro j j0 j1
    have j1 : j < s.2.2.2.2.1 := j1
    have h2 : 0 ≤ s.2.2.1 (j * 5 + 1) ∧ s.2.2.1 (j * 5 + 1) ≤ s.2.1 (s.2.2.1 (j * 5 + 0) + 1) - s.2.1 (s.2.2.1 (j * 5 + 0)) := gC j j0 j1
    have h3 : 0 ≤ s.2.2.1 (j * 5 + 0) ∧ s.2.2.1 (j * 5 + 0) < s.2.2.2.1 := hl j j0 j1
    show 0 ≤ s.2.2.1 (j * 5 + 1) ∧ s.2.2.1 (j * 5 + 1) ≤ zup s.2.1 (s.2.2.2.1 + 1) (s.2.1 s.2.2.2.1) (s.2.2.1 (j * 5 + 0) + 1) - zup s.2.1 (s.2.2.2.1 + 1) (s.2.1 s.2.2.2.1) (s.2.2.1 (j * 5 + 0))
    rw [hTz, hTz, if_neg (by omega), if_neg (by omega)]
    exact h2
theorem chR_n (g : Int → Int) (fr qu : Int) (h : 0 ≤ qu ∧ qu < 10) (hw : (chR g fr qu).2.2.2.2 = 1) : (-8 ≤ (chR g fr qu).2.1 ∧ (chR g fr qu).2.1 ≤ 12) ∧ ((chR g fr qu).2.2.2.1 = 100 ∨ (-8 ≤ (chR g fr qu).2.2.2.1 ∧ (chR g fr qu).2.2.2.1 ≤ 12)) := by
  have h1 := ntR_b g fr
  have h3 := ntR_b g ((ntR g fr).2 + (quF g (ntR g fr).2 qu).1 + 1)
  unfold chR at hw ⊢
  by_cases c1 : (ntR g fr).1 = 100
  · rw [if_pos c1] at hw; exact absurd hw (show ¬ (0 : Int) = 1 by decide)
  rw [if_neg c1] at hw ⊢
  by_cases c2 : (quF g (ntR g fr).2 qu).2.1 = 0
  · rw [if_pos c2] at hw; exact absurd hw (show ¬ (0 : Int) = 1 by decide)
  rw [if_neg c2] at hw ⊢
  by_cases c3 : g ((ntR g fr).2 + (quF g (ntR g fr).2 qu).1) = 47
  · rw [if_pos c3] at hw ⊢
    exact ⟨⟨show -8 ≤ (ntR g fr).1 from h1.1, show (ntR g fr).1 ≤ 12 by omega⟩, show (ntR g ((ntR g fr).2 + (quF g (ntR g fr).2 qu).1 + 1)).1 = 100 ∨ (-8 ≤ (ntR g ((ntR g fr).2 + (quF g (ntR g fr).2 qu).1 + 1)).1 ∧ (ntR g ((ntR g fr).2 + (quF g (ntR g fr).2 qu).1 + 1)).1 ≤ 12) by omega⟩
  · rw [if_neg c3]
    exact ⟨⟨show -8 ≤ (ntR g fr).1 from h1.1, show (ntR g fr).1 ≤ 12 by omega⟩, Or.inl rfl⟩
abbrev zX7 : Type := (Int → Int) × Int × Int × Int × Int × Int × Int
/-- the row is whole: the end of the last line too -/
def Vn (s : zSh) (v : Int → Int) : Prop := Vm s v ∧ v (4 + s.2.2.2.1) = s.2.1 s.2.2.2.1
def zeR : Nat → Int → (Int → Int) → Int → Int
  | 0, _, f => f
  | m + 1, k, f => zeR m (k + 1) (zup f k 0)
theorem zeR_e : ∀ (m : Nat) (k : Int) (f : Int → Int), zeR m k f = fun j => if k ≤ j ∧ j < k + m then 0 else f j
  | 0, k, f => by
    funext j
    rw [if_neg (by omega)]
    rfl
  | m + 1, k, f => by
    rw [zeR, zeR_e m (k + 1)]
    funext j
    show (if k + 1 ≤ j ∧ j < k + 1 + m then 0 else (if j = k then 0 else f j)) = _
    by_cases h1 : k + 1 ≤ j ∧ j < k + 1 + m
    · rw [if_pos h1, if_pos (by omega)]
    · rw [if_neg h1]
      by_cases h2 : j = k
      · rw [if_pos h2, if_pos (by omega)]
      · rw [if_neg h2, if_neg (by omega)]
theorem Vm_0 (s : zSh) (f : Int → Int) : Vm (shClr s) (zup (zeR 620 0 f) 0 1) := by
  have e : ∀ j : Int, 0 ≤ j → j < 620 → zeR 620 0 f j = 0 := by
    intro j j0 j1
    rw [zeR_e]
    exact if_pos ⟨j0, by omega⟩
  refine ⟨zup9_eq, ?_, ?_, ?_, ?_, ?_, ?_⟩
  · rw [zup9_ne (by omega)]; exact e 1 (by omega) (by omega)
  · rw [zup9_ne (by omega)]; exact e 2 (by omega) (by omega)
  · rw [zup9_ne (by omega)]; exact e 3 (by omega) (by omega)
  · intro k k0 k1
    have k1 : k < 1 := k1
    rw [zup9_ne (by omega), e _ (by omega) (by omega)]
    show (0 : Int) = zup (zup s.2.1 0 0) 1 0 k
    rw [zup9_ne (by omega), show k = 0 by omega, zup9_eq]
  · intro t t0 t1
    have t1 : t < 5 * 0 := t1
    omega
  · intro j j0 j1
    have j1 : j < zup (zup s.2.1 0 0) 1 0 1 := j1
    rw [zup9_eq] at j1
    omega
theorem okW_clr {s : zSh} (hd : okD 200 s) : okW (sK (shClr s) 0 0) := by
  have h1 := okD_le (okD_clr hd) (show (0 : Int) ≤ 200 by decide)
  have hT : ∀ k : Int, (shClr s).2.1 k = if k = 1 then 0 else if k = 0 then 0 else s.2.1 k := fun k => rfl
  refine ⟨⟨h1, ?_, ⟨by show (-6 : Int) ≤ 0; omega, by show (0 : Int) ≤ 6; omega⟩, Or.inl rfl, ?_⟩, ?_, ?_, ?_, ?_⟩
  · intro j j0 j1
    have j1 : j < 0 := j1
    omega
  · intro j j0 j1
    have j1 : j < 0 := j1
    omega
  · show (shClr s).2.1 0 = 0
    rw [hT, if_neg (by omega), if_pos rfl]
  · intro k k0 k1
    have k1 : k < 1 := k1
    show (shClr s).2.1 k ≤ (shClr s).2.1 (k + 1)
    rw [hT, hT, if_neg (by omega), if_pos (by omega), if_pos (by omega)]
    exact Int.le_refl 0
  · intro j j0 j1
    have j1 : j < 0 := j1
    omega
  · intro a b a0 ab b1
    have b1 : b < 0 := b1
    omega
theorem Vn_end {s : zSh} {v : Int → Int} {i : Int} (h : Vm s v) (hd : okD i s) (hlc : s.2.2.2.1 ≤ 201) : Vn s (zup v (4 + s.2.2.2.1) (s.2.1 s.2.2.2.1)) := by
  obtain ⟨h0, h1, h2, h3, hT, hF, hL⟩ := h
  have a1 := hd.1
  refine ⟨⟨(zup9_ne (by omega)).trans h0, (zup9_ne (by omega)).trans h1, (zup9_ne (by omega)).trans h2, (zup9_ne (by omega)).trans h3, ?_, ?_, ?_⟩, zup9_eq⟩
  · intro k k0 k1; rw [zup9_ne (by omega)]; exact hT k k0 k1
  · intro k k0 k1; rw [zup9_ne (by omega)]; exact hF k k0 k1
  · intro k k0 k1; rw [zup9_ne (by omega)]; exact hL k k0 k1
set_option maxRecDepth 10000 in
set_option maxHeartbeats 1000000 in
theorem l_reads (t : zRw) (v pa : Int → Int) (sn : Int) (tx : Int → Int) (ty si fl wi th : Int) (na : Int → Int) (nd : Int) (up lo : Int → Int) (us lw : Int) (ht : okT t) (hx : Tr t tx ty) (R : Int × zSh × zKd) : ∀ (m : Nat) (i : Int) (s : zSh) (k : zKd) (md : Int → Int) (nt rr rq rb wh : Int), (0 ≤ i ∧ i ≤ 400) → okD i s → okW (sK s 0 0) → Vm s md → (0 ≤ k.2.2.1 ∧ k.2.2.1 < 10) → t.1 - i < m → rdS (gT t) t.1 m i s k = R → Wa q_X10_readsSheet 4 0 0 10 (fun o w' => ∃ x : zX7, ((¬ R.1 = -1 → x.2.1 = R.1) ∧ (R.1 = -1 → Vn R.2.1 x.1)) ∧ o = .inl (some (zI (if R.1 = -1 then 1 else 0))) ∧ w' = (wM v pa sn tx ty si fl wi th x.2.1 x.2.2.1 x.2.2.2.1 x.2.2.2.2.1 x.2.2.2.2.2.1 x.2.2.2.2.2.2 x.1 na nd up lo us lw)) 36 [(1, zI (s.2.1 s.2.2.2.1)), (0, zR 0)] [] (wM v pa sn tx ty si fl wi th i nt rr rq rb wh md na nd up lo us lw) 0 0 := by
  obtain ⟨x0, x1⟩ := id hx
  obtain ⟨t1, t2, t3⟩ := id ht
  intro m
  induction m with
  | zero =>
    intro i s k md nt rr rq rb wh hi hd hw hm9 hq hf hR
    obtain ⟨m0, m1, m2, m3, mT, mF, mL⟩ := id hm9
    have a1 := hd.1
    have a2 := hd.2.1
    have a3 := hd.2.2.2.1
    have a4 : s.2.2.2.1 ≤ 200 + 1 := hw.1.1.1.2
    have hR2 : ((-1 : Int), s, k) = R := hR
    subst hR2
    refine wa_aload_n (pc' := 37) dX10_readsSheet_36 rfl rfl rfl ?_
    refine wa_getfield (pc' := 40) (j := 11) zc_X10 lk_X10_59 dX10_readsSheet_37 rfl (by decide) rfl rfl ?_
    refine wa_aload_n (pc' := 41) dX10_readsSheet_40 rfl rfl rfl ?_
    refine wa_getfield (pc' := 44) (j := 4) zc_X10 lk_X10_56 dX10_readsSheet_41 rfl (by decide) rfl rfl ?_
    refine wa_icmp_ge (tgt := 294) (pc' := 47) dX10_readsSheet_44 (by decide) rfl (by omega) (by omega) (fun c44 => ?_) (fun c44 => ?_)
    · refine wa_aload_n (pc' := 295) dX10_readsSheet_294 rfl rfl rfl ?_
      refine wa_getfield (pc' := 298) (j := 17) zc_X10 lk_X10_34 dX10_readsSheet_295 rfl (by decide) rfl rfl ?_
      refine wa_iconst (pc' := 299) dX10_readsSheet_298 rfl ?_
      refine wa_aload_n (pc' := 300) dX10_readsSheet_299 rfl rfl rfl ?_
      refine wa_getfield (pc' := 303) (j := 17) zc_X10 lk_X10_34 dX10_readsSheet_300 rfl (by decide) rfl rfl ?_
      refine wa_iconst (pc' := 304) dX10_readsSheet_303 rfl ?_
      refine wa_iaload (pc' := 305) dX10_readsSheet_304 rfl rfl (by omega) (by omega) (by decide) ?_
      rw [m0]
      refine wa_iadd (pc' := 306) dX10_readsSheet_305 rfl ?_
      refine wa_iload_n (pc' := 307) dX10_readsSheet_306 rfl rfl rfl ?_
      refine wa_iastore (pc' := 308) (w' := [_, _, _, _, _, _, zA _ _ _, _, _, _]) dX10_readsSheet_307 rfl rfl (by omega) (by omega) (by decide) rfl ?_
      refine wa_iconst (pc' := 309) dX10_readsSheet_308 rfl ?_
      refine wa_zret dX10_readsSheet_309 rfl (by decide) (by decide) (by omega) ?_
      exact ⟨(_, i, nt, rr, rq, rb, wh), ⟨fun h => absurd rfl h, fun _ => Vn_end hm9 hd (show s.2.2.2.1 ≤ 201 by omega)⟩, rfl, rfl⟩
    · exact absurd c44 (by omega)
  | succ m ih =>
    intro i s k md nt rr rq rb wh hi hd hw hm9 hq hf hR
    obtain ⟨m0, m1, m2, m3, mT, mF, mL⟩ := id hm9
    have a1 := hd.1
    have a2 := hd.2.1
    have a3 := hd.2.2.2.1
    have a4 : s.2.2.2.1 ≤ 200 + 1 := hw.1.1.1.2
    rw [rdS] at hR
    have g1 := gT_b ht i
    refine wa_aload_n (pc' := 37) dX10_readsSheet_36 rfl rfl rfl ?_
    refine wa_getfield (pc' := 40) (j := 11) zc_X10 lk_X10_59 dX10_readsSheet_37 rfl (by decide) rfl rfl ?_
    refine wa_aload_n (pc' := 41) dX10_readsSheet_40 rfl rfl rfl ?_
    refine wa_getfield (pc' := 44) (j := 4) zc_X10 lk_X10_56 dX10_readsSheet_41 rfl (by decide) rfl rfl ?_
    refine wa_icmp_ge (tgt := 294) (pc' := 47) dX10_readsSheet_44 (by decide) rfl (by omega) (by omega) (fun c44 => ?_) (fun c44 => ?_)
    · rw [if_pos (by omega)] at hR
      subst hR
      refine wa_aload_n (pc' := 295) dX10_readsSheet_294 rfl rfl rfl ?_
      refine wa_getfield (pc' := 298) (j := 17) zc_X10 lk_X10_34 dX10_readsSheet_295 rfl (by decide) rfl rfl ?_
      refine wa_iconst (pc' := 299) dX10_readsSheet_298 rfl ?_
      refine wa_aload_n (pc' := 300) dX10_readsSheet_299 rfl rfl rfl ?_
      refine wa_getfield (pc' := 303) (j := 17) zc_X10 lk_X10_34 dX10_readsSheet_300 rfl (by decide) rfl rfl ?_
      refine wa_iconst (pc' := 304) dX10_readsSheet_303 rfl ?_
      refine wa_iaload (pc' := 305) dX10_readsSheet_304 rfl rfl (by omega) (by omega) (by decide) ?_
      rw [m0]
      refine wa_iadd (pc' := 306) dX10_readsSheet_305 rfl ?_
      refine wa_iload_n (pc' := 307) dX10_readsSheet_306 rfl rfl rfl ?_
      refine wa_iastore (pc' := 308) (w' := [_, _, _, _, _, _, zA _ _ _, _, _, _]) dX10_readsSheet_307 rfl rfl (by omega) (by omega) (by decide) rfl ?_
      refine wa_iconst (pc' := 309) dX10_readsSheet_308 rfl ?_
      refine wa_zret dX10_readsSheet_309 rfl (by decide) (by decide) (by omega) ?_
      exact ⟨(_, i, nt, rr, rq, rb, wh), ⟨fun h => absurd rfl h, fun _ => Vn_end hm9 hd (show s.2.2.2.1 ≤ 201 by omega)⟩, rfl, rfl⟩
    · rw [if_neg (by omega)] at hR
      refine wa_aload_n (pc' := 48) dX10_readsSheet_47 rfl rfl rfl ?_
      refine wa_aload_n (pc' := 49) dX10_readsSheet_48 rfl rfl rfl ?_
      refine wa_getfield (pc' := 52) (j := 11) zc_X10 lk_X10_59 dX10_readsSheet_49 rfl (by decide) rfl rfl ?_
      refine wa_rI2 (pc' := 55) (st := []) (k_X10_sign t _ _ _ _ _ _ _ _ _ _ _ _ _ _ _ _ _ _ _ _ _ _ i ht hx (by omega)) ok_X10_sign lm_X10_62 dX10_readsSheet_52 rfl (wM_ok _ _ _ _ _ _ _ _ _ _ _ _ _ _ _ _ _ _ _ _ _ _) rfl rfl (Nat.le_of_ble_eq_true rfl) rfl rfl rfl rfl (by decide) (Nat.le_of_ble_eq_true rfl) rfl (by decide) (by decide) rfl rfl ?_
      refine wa_bipush (pc' := 57) dX10_readsSheet_55 rfl rfl ?_
      refine wa_icmp_eq (tgt := 84) (pc' := 60) dX10_readsSheet_57 (by decide) rfl (by omega) (by omega) (fun c57 => ?_) (fun c57 => ?_)
      · rw [if_pos c57] at hR
        subst hR
        refine wa_iconst (pc' := 85) dX10_readsSheet_84 rfl ?_
        refine wa_zret dX10_readsSheet_85 rfl (by decide) (by decide) (by omega) ?_
        exact ⟨(md, i, nt, rr, rq, rb, wh), ⟨fun _ => rfl, fun h => absurd (show i = -1 from h) (by omega)⟩, by rw [if_neg (show ¬ i = -1 by omega)], rfl⟩
      · rw [if_neg c57] at hR
        refine wa_aload_n (pc' := 61) dX10_readsSheet_60 rfl rfl rfl ?_
        refine wa_aload_n (pc' := 62) dX10_readsSheet_61 rfl rfl rfl ?_
        refine wa_getfield (pc' := 65) (j := 11) zc_X10 lk_X10_59 dX10_readsSheet_62 rfl (by decide) rfl rfl ?_
        refine wa_rI2 (pc' := 68) (st := []) (k_X10_sign t _ _ _ _ _ _ _ _ _ _ _ _ _ _ _ _ _ _ _ _ _ _ i ht hx (by omega)) ok_X10_sign lm_X10_62 dX10_readsSheet_65 rfl (wM_ok _ _ _ _ _ _ _ _ _ _ _ _ _ _ _ _ _ _ _ _ _ _) rfl rfl (Nat.le_of_ble_eq_true rfl) rfl rfl rfl rfl (by decide) (Nat.le_of_ble_eq_true rfl) rfl (by decide) (by decide) rfl rfl ?_
        refine wa_bipush (pc' := 70) dX10_readsSheet_68 rfl rfl ?_
        refine wa_icmp_ne (tgt := 86) (pc' := 73) dX10_readsSheet_70 (by decide) rfl (by omega) (by omega) (fun c70 => ?_) (fun c70 => ?_)
        · refine wa_aload_n (pc' := 87) dX10_readsSheet_86 rfl rfl rfl ?_
          refine wa_aload_n (pc' := 88) dX10_readsSheet_87 rfl rfl rfl ?_
          refine wa_getfield (pc' := 91) (j := 11) zc_X10 lk_X10_59 dX10_readsSheet_88 rfl (by decide) rfl rfl ?_
          refine wa_rI2 (pc' := 94) (st := []) (k_X10_sign t _ _ _ _ _ _ _ _ _ _ _ _ _ _ _ _ _ _ _ _ _ _ i ht hx (by omega)) ok_X10_sign lm_X10_62 dX10_readsSheet_91 rfl (wM_ok _ _ _ _ _ _ _ _ _ _ _ _ _ _ _ _ _ _ _ _ _ _) rfl rfl (Nat.le_of_ble_eq_true rfl) rfl rfl rfl rfl (by decide) (Nat.le_of_ble_eq_true rfl) rfl (by decide) (by decide) rfl rfl ?_
          refine wa_bipush (pc' := 96) dX10_readsSheet_94 rfl rfl ?_
          refine wa_icmp_ne (tgt := 220) (pc' := 99) dX10_readsSheet_96 (by decide) rfl (by omega) (by omega) (fun c96 => ?_) (fun c96 => ?_)
          · rw [if_neg c96] at hR
            refine wa_aload_n (pc' := 221) dX10_readsSheet_220 rfl rfl rfl ?_
            refine wa_aload_n (pc' := 222) dX10_readsSheet_221 rfl rfl rfl ?_
            refine wa_getfield (pc' := 225) (j := 11) zc_X10 lk_X10_59 dX10_readsSheet_222 rfl (by decide) rfl rfl ?_
            refine wa_rI2 (pc' := 228) (st := []) (k_X10_sign t _ _ _ _ _ _ _ _ _ _ _ _ _ _ _ _ _ _ _ _ _ _ i ht hx (by omega)) ok_X10_sign lm_X10_62 dX10_readsSheet_225 rfl (wM_ok _ _ _ _ _ _ _ _ _ _ _ _ _ _ _ _ _ _ _ _ _ _) rfl rfl (Nat.le_of_ble_eq_true rfl) rfl rfl rfl rfl (by decide) (Nat.le_of_ble_eq_true rfl) rfl (by decide) (by decide) rfl rfl ?_
            refine wa_bipush (pc' := 230) dX10_readsSheet_228 rfl rfl ?_
            refine wa_icmp_ne (tgt := 260) (pc' := 233) dX10_readsSheet_230 (by decide) rfl (by omega) (by omega) (fun c230 => ?_) (fun c230 => ?_)
            · rw [if_neg c230] at hR
              refine wa_aload_n (pc' := 261) dX10_readsSheet_260 rfl rfl rfl ?_
              refine wa_getfield (pc' := 264) (j := 17) zc_X10 lk_X10_34 dX10_readsSheet_261 rfl (by decide) rfl rfl ?_
              refine wa_sipush (pc' := 267) dX10_readsSheet_264 rfl rfl ?_
              refine wa_iload_n (pc' := 268) dX10_readsSheet_267 rfl rfl rfl ?_
              refine wa_iadd (pc' := 269) dX10_readsSheet_268 rfl ?_
              refine wa_aload_n (pc' := 270) dX10_readsSheet_269 rfl rfl rfl ?_
              refine wa_aload_n (pc' := 271) dX10_readsSheet_270 rfl rfl rfl ?_
              refine wa_getfield (pc' := 274) (j := 11) zc_X10 lk_X10_59 dX10_readsSheet_271 rfl (by decide) rfl rfl ?_
              refine wa_rI2 (pc' := 277) (st := [_, _]) (k_X10_sign t _ _ _ _ _ _ _ _ _ _ _ _ _ _ _ _ _ _ _ _ _ _ i ht hx (by omega)) ok_X10_sign lm_X10_62 dX10_readsSheet_274 rfl (wM_ok _ _ _ _ _ _ _ _ _ _ _ _ _ _ _ _ _ _ _ _ _ _) rfl rfl (Nat.le_of_ble_eq_true rfl) rfl rfl rfl rfl (by decide) (Nat.le_of_ble_eq_true rfl) rfl (by decide) (by decide) rfl rfl ?_
              refine wa_iastore (pc' := 278) (w' := [_, _, _, _, _, _, zA _ _ _, _, _, _]) dX10_readsSheet_277 rfl rfl (by omega) (by omega) (by decide) rfl ?_
              refine wa_iinc (pc' := 281) (ls' := [(1, _), (0, _)]) dX10_readsSheet_278 rfl rfl (by decide) rfl ?_
              refine wa_aload_n (pc' := 282) dX10_readsSheet_281 rfl rfl rfl ?_
              refine wa_dup (pc' := 283) dX10_readsSheet_282 rfl rfl ?_
              refine wa_getfield (pc' := 286) (j := 11) zc_X10 lk_X10_59 dX10_readsSheet_283 rfl (by decide) rfl rfl ?_
              refine wa_iconst (pc' := 287) dX10_readsSheet_286 rfl ?_
              refine wa_iadd (pc' := 288) dX10_readsSheet_287 rfl ?_
              refine wa_putfield (pc' := 291) (j := 11) (w' := [zO _ [_, _, _, _, _, _, _, _, _, _, _, _, _, _, _, _, _, _, _, _, _, _, _, _], _, _, _, _, _, _, _, _, _]) zc_X10 lk_X10_59 dX10_readsSheet_288 rfl (by decide) rfl rfl (Nat.le_of_ble_eq_true rfl) True.intro rfl ?_
              refine wa_goto (pc' := 36) dX10_readsSheet_291 (by decide) ?_
              have ih9 := ih (i + 1) (shAdd s (gT t i)) k (zup md (415 + s.2.1 s.2.2.2.1) (gT t i)) nt rr rq rb wh (by omega) (okD_add hd (by omega) _ (by have := gT_p ht i hi.1 (by omega); omega)) (okW_add hw hd (by omega) _ (by have := gT_p ht i hi.1 (by omega); omega)) (Vm_add hm9 hd _ (by omega) (by omega)) hq (by omega) hR
              rw [show (shAdd s (gT t i)).2.1 (shAdd s (gT t i)).2.2.2.1 = s.2.1 s.2.2.2.1 + 1 from (zup9_eq : zup s.2.1 s.2.2.2.1 (s.2.1 s.2.2.2.1 + 1) s.2.2.2.1 = s.2.1 s.2.2.2.1 + 1)] at ih9
              exact ih9
            · rw [if_pos c230] at hR
              refine wa_aload_n (pc' := 234) dX10_readsSheet_233 rfl rfl rfl ?_
              refine wa_getfield (pc' := 237) (j := 17) zc_X10 lk_X10_34 dX10_readsSheet_234 rfl (by decide) rfl rfl ?_
              refine wa_iconst (pc' := 238) dX10_readsSheet_237 rfl ?_
              refine wa_aload_n (pc' := 239) dX10_readsSheet_238 rfl rfl rfl ?_
              refine wa_getfield (pc' := 242) (j := 17) zc_X10 lk_X10_34 dX10_readsSheet_239 rfl (by decide) rfl rfl ?_
              refine wa_iconst (pc' := 243) dX10_readsSheet_242 rfl ?_
              refine wa_iaload (pc' := 244) dX10_readsSheet_243 rfl rfl (by omega) (by omega) (by decide) ?_
              rw [m0]
              refine wa_iadd (pc' := 245) dX10_readsSheet_244 rfl ?_
              refine wa_iload_n (pc' := 246) dX10_readsSheet_245 rfl rfl rfl ?_
              refine wa_iastore (pc' := 247) (w' := [_, _, _, _, _, _, zA _ _ _, _, _, _]) dX10_readsSheet_246 rfl rfl (by omega) (by omega) (by decide) rfl ?_
              refine wa_aload_n (pc' := 248) dX10_readsSheet_247 rfl rfl rfl ?_
              refine wa_getfield (pc' := 251) (j := 17) zc_X10 lk_X10_34 dX10_readsSheet_248 rfl (by decide) rfl rfl ?_
              refine wa_iconst (pc' := 252) dX10_readsSheet_251 rfl ?_
              refine wa_dup2 (pc' := 253) dX10_readsSheet_252 rfl rfl rfl ?_
              refine wa_iaload (pc' := 254) dX10_readsSheet_253 rfl rfl (by omega) (by omega) (by decide) ?_
              rw [zup9_ne (by omega), m0]
              refine wa_iconst (pc' := 255) dX10_readsSheet_254 rfl ?_
              refine wa_iadd (pc' := 256) dX10_readsSheet_255 rfl ?_
              refine wa_iastore (pc' := 257) (w' := [_, _, _, _, _, _, zA _ _ _, _, _, _]) dX10_readsSheet_256 rfl rfl (by omega) (by omega) (by decide) rfl ?_
              refine wa_goto (pc' := 281) dX10_readsSheet_257 (by decide) ?_
              refine wa_aload_n (pc' := 282) dX10_readsSheet_281 rfl rfl rfl ?_
              refine wa_dup (pc' := 283) dX10_readsSheet_282 rfl rfl ?_
              refine wa_getfield (pc' := 286) (j := 11) zc_X10 lk_X10_59 dX10_readsSheet_283 rfl (by decide) rfl rfl ?_
              refine wa_iconst (pc' := 287) dX10_readsSheet_286 rfl ?_
              refine wa_iadd (pc' := 288) dX10_readsSheet_287 rfl ?_
              refine wa_putfield (pc' := 291) (j := 11) (w' := [zO _ [_, _, _, _, _, _, _, _, _, _, _, _, _, _, _, _, _, _, _, _, _, _, _, _], _, _, _, _, _, _, _, _, _]) zc_X10 lk_X10_59 dX10_readsSheet_288 rfl (by decide) rfl rfl (Nat.le_of_ble_eq_true rfl) True.intro rfl ?_
              refine wa_goto (pc' := 36) dX10_readsSheet_291 (by decide) ?_
              have ih9 := ih (i + 1) (shLine s) k (zup (zup md (4 + s.2.2.2.1) (s.2.1 s.2.2.2.1)) 0 (s.2.2.2.1 + 1)) nt rr rq rb wh (by omega) (okD_line hd (by omega)) (okW_line hw hd (by omega)) (Vm_line hm9 hd (by omega) (by omega)) hq (by omega) hR
              rw [show (shLine s).2.1 (shLine s).2.2.2.1 = s.2.1 s.2.2.2.1 from (zup9_eq : zup s.2.1 (s.2.2.2.1 + 1) (s.2.1 s.2.2.2.1) (s.2.2.2.1 + 1) = s.2.1 s.2.2.2.1)] at ih9
              exact ih9
          · rw [if_pos c96, if_neg (by omega)] at hR
            have M := mc_ch (gT t) 93 (i + 1) k.2.2.1 rr rq rb wh hq
            have cb := chR_b (gT t) (i + 1) k.2.2.1 hq
            have M01 := mcR_01 (gT t) 93 (i + 1) rr rq rb wh
            refine wa_aload_n (pc' := 100) dX10_readsSheet_99 rfl rfl rfl ?_
            refine wa_dup (pc' := 101) dX10_readsSheet_100 rfl rfl ?_
            refine wa_getfield (pc' := 104) (j := 11) zc_X10 lk_X10_59 dX10_readsSheet_101 rfl (by decide) rfl rfl ?_
            refine wa_iconst (pc' := 105) dX10_readsSheet_104 rfl ?_
            refine wa_iadd (pc' := 106) dX10_readsSheet_105 rfl ?_
            refine wa_putfield (pc' := 109) (j := 11) (w' := [zO _ [_, _, _, _, _, _, _, _, _, _, _, _, _, _, _, _, _, _, _, _, _, _, _, _], _, _, _, _, _, _, _, _, _]) zc_X10 lk_X10_59 dX10_readsSheet_106 rfl (by decide) rfl rfl (Nat.le_of_ble_eq_true rfl) True.intro rfl ?_
            refine wa_aload_n (pc' := 110) dX10_readsSheet_109 rfl rfl rfl ?_
            refine wa_bipush (pc' := 112) dX10_readsSheet_110 rfl rfl ?_
            refine wa_iD2 (pc' := 115) (st := []) (k_X10_readsChord t _ _ _ _ _ _ _ _ _ _ _ _ _ _ _ _ _ _ _ _ _ _ 93 ht hx (by omega) (by omega)) ok_X10_readsChord lm_X10_90 dX10_readsSheet_112 rfl (wM_ok _ _ _ _ _ _ _ _ _ _ _ _ _ _ _ _ _ _ _ _ _ _) (Eq.refl 10) (wM_ok _ _ _ _ _ _ _ _ _ _ _ _ _ _ _ _ _ _ _ _ _ _) rfl rfl (Nat.le_of_ble_eq_true rfl) rfl rfl rfl rfl (by decide) (Nat.le_of_ble_eq_true rfl) rfl (by decide) (by decide) rfl rfl ?_
            show Wa _ _ _ _ _ _ _ _ [_] _ _ _
            refine wa_if_ne (tgt := 120) (pc' := 118) dX10_readsSheet_115 (by decide) rfl (by omega) (fun c115 => ?_) (fun c115 => ?_)
            · have h115 := M.2.1.mp (by omega)
              have h116 := M.2.2 (by omega)
              have h117 := chR_n (gT t) (i + 1) k.2.2.1 hq h115.1
              rw [if_neg (show ¬ (chR (gT t) (i + 1) k.2.2.1).2.2.2.2 = 0 by omega), if_pos h115.2] at hR
              refine wa_aload_n (pc' := 121) dX10_readsSheet_120 rfl rfl rfl ?_
              refine wa_getfield (pc' := 124) (j := 17) zc_X10 lk_X10_34 dX10_readsSheet_121 rfl (by decide) rfl rfl ?_
              refine wa_iconst (pc' := 125) dX10_readsSheet_124 rfl ?_
              refine wa_iaload (pc' := 126) dX10_readsSheet_125 rfl rfl (by omega) (by omega) (by decide) ?_
              rw [m1]
              refine wa_dS (pc' := 129) (w' := [_, _, _, _, _, _, _, _, _, _]) (k_X10_chord s.2.2.2.2.1 (by omega)) ok_X10_chord lm_X10_94 dX10_readsSheet_126 rfl [] rfl (by decide) rfl rfl (by decide) (Nat.le_of_ble_eq_true rfl) rfl (by decide) (by decide) rfl rfl rfl ?_
              refine wa_istore_n (pc' := 130) (ls' := [(2, _), (1, _), (0, _)]) dX10_readsSheet_129 rfl rfl (by decide) rfl ?_
              refine wa_aload_n (pc' := 131) dX10_readsSheet_130 rfl rfl rfl ?_
              refine wa_getfield (pc' := 134) (j := 17) zc_X10 lk_X10_34 dX10_readsSheet_131 rfl (by decide) rfl rfl ?_
              refine wa_iload_n (pc' := 135) dX10_readsSheet_134 rfl rfl rfl ?_
              refine wa_iconst (pc' := 136) dX10_readsSheet_135 rfl ?_
              refine wa_iadd (pc' := 137) dX10_readsSheet_136 rfl ?_
              refine wa_aload_n (pc' := 138) dX10_readsSheet_137 rfl rfl rfl ?_
              refine wa_getfield (pc' := 141) (j := 17) zc_X10 lk_X10_34 dX10_readsSheet_138 rfl (by decide) rfl rfl ?_
              refine wa_iconst (pc' := 142) dX10_readsSheet_141 rfl ?_
              refine wa_iaload (pc' := 143) dX10_readsSheet_142 rfl rfl (by omega) (by omega) (by decide) ?_
              rw [m0]
              refine wa_iconst (pc' := 144) dX10_readsSheet_143 rfl ?_
              refine wa_isub (pc' := 145) dX10_readsSheet_144 rfl ?_
              refine wa_iastore (pc' := 146) (w' := [_, _, _, _, _, _, zA _ _ _, _, _, _]) dX10_readsSheet_145 rfl rfl (by omega) (by omega) (by decide) rfl ?_
              refine wa_aload_n (pc' := 147) dX10_readsSheet_146 rfl rfl rfl ?_
              refine wa_getfield (pc' := 150) (j := 17) zc_X10 lk_X10_34 dX10_readsSheet_147 rfl (by decide) rfl rfl ?_
              refine wa_iload_n (pc' := 151) dX10_readsSheet_150 rfl rfl rfl ?_
              refine wa_iconst (pc' := 152) dX10_readsSheet_151 rfl ?_
              refine wa_iadd (pc' := 153) dX10_readsSheet_152 rfl ?_
              refine wa_iload_n (pc' := 154) dX10_readsSheet_153 rfl rfl rfl ?_
              refine wa_aload_n (pc' := 155) dX10_readsSheet_154 rfl rfl rfl ?_
              refine wa_getfield (pc' := 158) (j := 17) zc_X10 lk_X10_34 dX10_readsSheet_155 rfl (by decide) rfl rfl ?_
              refine wa_iconst (pc' := 159) dX10_readsSheet_158 rfl ?_
              refine wa_aload_n (pc' := 160) dX10_readsSheet_159 rfl rfl rfl ?_
              refine wa_getfield (pc' := 163) (j := 17) zc_X10 lk_X10_34 dX10_readsSheet_160 rfl (by decide) rfl rfl ?_
              refine wa_iconst (pc' := 164) dX10_readsSheet_163 rfl ?_
              refine wa_iaload (pc' := 165) dX10_readsSheet_164 rfl rfl (by omega) (by omega) (by decide) ?_
              refine wa_iadd (pc' := 166) dX10_readsSheet_165 rfl ?_
              rw [zup9_ne (by omega), m0]
              refine wa_iconst (pc' := 167) dX10_readsSheet_166 rfl ?_
              refine wa_isub (pc' := 168) dX10_readsSheet_167 rfl ?_
              refine wa_iaload (pc' := 169) dX10_readsSheet_168 rfl rfl (by omega) (by omega) (by decide) ?_
              rw [show 4 + s.2.2.2.1 - 1 = 4 + (s.2.2.2.1 - 1) by omega, zup9_ne (by omega), mT (s.2.2.2.1 - 1) (by omega) (by omega)]
              refine wa_isub (pc' := 170) dX10_readsSheet_169 rfl ?_
              refine wa_iastore (pc' := 171) (w' := [_, _, _, _, _, _, zA _ _ _, _, _, _]) dX10_readsSheet_170 rfl rfl (by omega) (by omega) (by decide) rfl ?_
              refine wa_aload_n (pc' := 172) dX10_readsSheet_171 rfl rfl rfl ?_
              refine wa_getfield (pc' := 175) (j := 17) zc_X10 lk_X10_34 dX10_readsSheet_172 rfl (by decide) rfl rfl ?_
              refine wa_iload_n (pc' := 176) dX10_readsSheet_175 rfl rfl rfl ?_
              refine wa_iconst (pc' := 177) dX10_readsSheet_176 rfl ?_
              refine wa_iadd (pc' := 178) dX10_readsSheet_177 rfl ?_
              refine wa_aload_n (pc' := 179) dX10_readsSheet_178 rfl rfl rfl ?_
              refine wa_getfield (pc' := 182) (j := 13) zc_X10 lk_X10_78 dX10_readsSheet_179 rfl (by decide) rfl rfl ?_
              refine wa_iastore (pc' := 183) (w' := [_, _, _, _, _, _, zA _ _ _, _, _, _]) dX10_readsSheet_182 rfl rfl (by omega) (by omega) (by decide) rfl ?_
              refine wa_aload_n (pc' := 184) dX10_readsSheet_183 rfl rfl rfl ?_
              refine wa_getfield (pc' := 187) (j := 17) zc_X10 lk_X10_34 dX10_readsSheet_184 rfl (by decide) rfl rfl ?_
              refine wa_iload_n (pc' := 188) dX10_readsSheet_187 rfl rfl rfl ?_
              refine wa_iconst (pc' := 189) dX10_readsSheet_188 rfl ?_
              refine wa_iadd (pc' := 190) dX10_readsSheet_189 rfl ?_
              refine wa_aload_n (pc' := 191) dX10_readsSheet_190 rfl rfl rfl ?_
              refine wa_getfield (pc' := 194) (j := 14) zc_X10 lk_X10_87 dX10_readsSheet_191 rfl (by decide) rfl rfl ?_
              refine wa_iastore (pc' := 195) (w' := [_, _, _, _, _, _, zA _ _ _, _, _, _]) dX10_readsSheet_194 rfl rfl (by omega) (by omega) (by decide) rfl ?_
              refine wa_aload_n (pc' := 196) dX10_readsSheet_195 rfl rfl rfl ?_
              refine wa_getfield (pc' := 199) (j := 17) zc_X10 lk_X10_34 dX10_readsSheet_196 rfl (by decide) rfl rfl ?_
              refine wa_iload_n (pc' := 200) dX10_readsSheet_199 rfl rfl rfl ?_
              refine wa_iconst (pc' := 201) dX10_readsSheet_200 rfl ?_
              refine wa_iadd (pc' := 202) dX10_readsSheet_201 rfl ?_
              refine wa_aload_n (pc' := 203) dX10_readsSheet_202 rfl rfl rfl ?_
              refine wa_getfield (pc' := 206) (j := 15) zc_X10 lk_X10_81 dX10_readsSheet_203 rfl (by decide) rfl rfl ?_
              refine wa_iastore (pc' := 207) (w' := [_, _, _, _, _, _, zA _ _ _, _, _, _]) dX10_readsSheet_206 rfl rfl (by omega) (by omega) (by decide) rfl ?_
              refine wa_aload_n (pc' := 208) dX10_readsSheet_207 rfl rfl rfl ?_
              refine wa_getfield (pc' := 211) (j := 17) zc_X10 lk_X10_34 dX10_readsSheet_208 rfl (by decide) rfl rfl ?_
              refine wa_iconst (pc' := 212) dX10_readsSheet_211 rfl ?_
              refine wa_dup2 (pc' := 213) dX10_readsSheet_212 rfl rfl rfl ?_
              refine wa_iaload (pc' := 214) dX10_readsSheet_213 rfl rfl (by omega) (by omega) (by decide) ?_
              rw [zup9_ne (by omega), zup9_ne (by omega), zup9_ne (by omega), zup9_ne (by omega), zup9_ne (by omega), m1]
              refine wa_iconst (pc' := 215) dX10_readsSheet_214 rfl ?_
              refine wa_iadd (pc' := 216) dX10_readsSheet_215 rfl ?_
              refine wa_iastore (pc' := 217) (w' := [_, _, _, _, _, _, zA _ _ _, _, _, _]) dX10_readsSheet_216 rfl rfl (by omega) (by omega) (by decide) rfl ?_
              refine wa_goto (pc' := 281) dX10_readsSheet_217 (by decide) ?_
              refine wa_aload_n (pc' := 282) dX10_readsSheet_281 rfl rfl rfl ?_
              refine wa_dup (pc' := 283) dX10_readsSheet_282 rfl rfl ?_
              refine wa_getfield (pc' := 286) (j := 11) zc_X10 lk_X10_59 dX10_readsSheet_283 rfl (by decide) rfl rfl ?_
              refine wa_iconst (pc' := 287) dX10_readsSheet_286 rfl ?_
              refine wa_iadd (pc' := 288) dX10_readsSheet_287 rfl ?_
              refine wa_putfield (pc' := 291) (j := 11) (w' := [zO _ [_, _, _, _, _, _, _, _, _, _, _, _, _, _, _, _, _, _, _, _, _, _, _, _], _, _, _, _, _, _, _, _, _]) zc_X10 lk_X10_59 dX10_readsSheet_288 rfl (by decide) rfl rfl (Nat.le_of_ble_eq_true rfl) True.intro rfl ?_
              refine wa_goto (pc' := 36) dX10_readsSheet_291 (by decide) ?_
              refine wa_sub [1, 2] rfl ?_
              rw [h116.1, h116.2.1, h116.2.2, M.1]
              exact ih ((chR (gT t) (i + 1) k.2.2.1).1 + 1) (shApp s (chR (gT t) (i + 1) k.2.2.1).2.1 (chR (gT t) (i + 1) k.2.2.1).2.2.1 (chR (gT t) (i + 1) k.2.2.1).2.2.2.1) (chR (gT t) (i + 1) k.2.2.1) _ _ _ _ _ _ (by omega) (okD_le (okD_app hd (by omega) (by omega) _ _ _ (by omega) (by omega) (by omega)) (by omega)) (okW_app hw (by omega) (by omega) (by omega) (by omega)) (Vm_app hm9 hw (by omega) _ _ _) (by omega) (by omega) hR
            · have h115 : R = ((chR (gT t) (i + 1) k.2.2.1).1, s, (chR (gT t) (i + 1) k.2.2.1)) := by
                rw [← hR]
                by_cases q1 : (chR (gT t) (i + 1) k.2.2.1).2.2.2.2 = 0
                · rw [if_pos q1]
                · rw [if_neg q1, if_neg (fun q2 => by have := M.2.1.mpr ⟨by omega, q2⟩; omega)]
              subst h115
              refine wa_iconst (pc' := 119) dX10_readsSheet_118 rfl ?_
              refine wa_zret dX10_readsSheet_119 rfl (by decide) (by decide) (by omega) ?_
              exact ⟨(md, (mcR (gT t) (93) (i + 1) rr rq rb wh).2.1, (mcR (gT t) (93) (i + 1) rr rq rb wh).2.2.1, (mcR (gT t) (93) (i + 1) rr rq rb wh).2.2.2.1, (mcR (gT t) (93) (i + 1) rr rq rb wh).2.2.2.2.1, (mcR (gT t) (93) (i + 1) rr rq rb wh).2.2.2.2.2.1, (mcR (gT t) (93) (i + 1) rr rq rb wh).2.2.2.2.2.2), ⟨fun _ => M.1, fun h => absurd (show (chR (gT t) (i + 1) k.2.2.1).1 = -1 from h) (by omega)⟩, by rw [if_neg (show ¬ (chR (gT t) (i + 1) k.2.2.1).1 = -1 by omega)], rfl⟩
        · refine wa_aload_n (pc' := 74) dX10_readsSheet_73 rfl rfl rfl ?_
          refine wa_getfield (pc' := 77) (j := 17) zc_X10 lk_X10_34 dX10_readsSheet_74 rfl (by decide) rfl rfl ?_
          refine wa_iconst (pc' := 78) dX10_readsSheet_77 rfl ?_
          refine wa_iaload (pc' := 79) dX10_readsSheet_78 rfl rfl (by omega) (by omega) (by decide) ?_
          refine wa_bipush (pc' := 81) dX10_readsSheet_79 rfl rfl ?_
          rw [m1]
          refine wa_icmp_ne (tgt := 86) (pc' := 84) dX10_readsSheet_81 (by decide) rfl (by omega) (by omega) (fun c81 => ?_) (fun c81 => ?_)
          · refine wa_aload_n (pc' := 87) dX10_readsSheet_86 rfl rfl rfl ?_
            refine wa_aload_n (pc' := 88) dX10_readsSheet_87 rfl rfl rfl ?_
            refine wa_getfield (pc' := 91) (j := 11) zc_X10 lk_X10_59 dX10_readsSheet_88 rfl (by decide) rfl rfl ?_
            refine wa_rI2 (pc' := 94) (st := []) (k_X10_sign t _ _ _ _ _ _ _ _ _ _ _ _ _ _ _ _ _ _ _ _ _ _ i ht hx (by omega)) ok_X10_sign lm_X10_62 dX10_readsSheet_91 rfl (wM_ok _ _ _ _ _ _ _ _ _ _ _ _ _ _ _ _ _ _ _ _ _ _) rfl rfl (Nat.le_of_ble_eq_true rfl) rfl rfl rfl rfl (by decide) (Nat.le_of_ble_eq_true rfl) rfl (by decide) (by decide) rfl rfl ?_
            refine wa_bipush (pc' := 96) dX10_readsSheet_94 rfl rfl ?_
            refine wa_icmp_ne (tgt := 220) (pc' := 99) dX10_readsSheet_96 (by decide) rfl (by omega) (by omega) (fun c96 => ?_) (fun c96 => ?_)
            · rw [if_neg c96] at hR
              refine wa_aload_n (pc' := 221) dX10_readsSheet_220 rfl rfl rfl ?_
              refine wa_aload_n (pc' := 222) dX10_readsSheet_221 rfl rfl rfl ?_
              refine wa_getfield (pc' := 225) (j := 11) zc_X10 lk_X10_59 dX10_readsSheet_222 rfl (by decide) rfl rfl ?_
              refine wa_rI2 (pc' := 228) (st := []) (k_X10_sign t _ _ _ _ _ _ _ _ _ _ _ _ _ _ _ _ _ _ _ _ _ _ i ht hx (by omega)) ok_X10_sign lm_X10_62 dX10_readsSheet_225 rfl (wM_ok _ _ _ _ _ _ _ _ _ _ _ _ _ _ _ _ _ _ _ _ _ _) rfl rfl (Nat.le_of_ble_eq_true rfl) rfl rfl rfl rfl (by decide) (Nat.le_of_ble_eq_true rfl) rfl (by decide) (by decide) rfl rfl ?_
              refine wa_bipush (pc' := 230) dX10_readsSheet_228 rfl rfl ?_
              refine wa_icmp_ne (tgt := 260) (pc' := 233) dX10_readsSheet_230 (by decide) rfl (by omega) (by omega) (fun c230 => ?_) (fun c230 => ?_)
              · rw [if_neg c230] at hR
                refine wa_aload_n (pc' := 261) dX10_readsSheet_260 rfl rfl rfl ?_
                refine wa_getfield (pc' := 264) (j := 17) zc_X10 lk_X10_34 dX10_readsSheet_261 rfl (by decide) rfl rfl ?_
                refine wa_sipush (pc' := 267) dX10_readsSheet_264 rfl rfl ?_
                refine wa_iload_n (pc' := 268) dX10_readsSheet_267 rfl rfl rfl ?_
                refine wa_iadd (pc' := 269) dX10_readsSheet_268 rfl ?_
                refine wa_aload_n (pc' := 270) dX10_readsSheet_269 rfl rfl rfl ?_
                refine wa_aload_n (pc' := 271) dX10_readsSheet_270 rfl rfl rfl ?_
                refine wa_getfield (pc' := 274) (j := 11) zc_X10 lk_X10_59 dX10_readsSheet_271 rfl (by decide) rfl rfl ?_
                refine wa_rI2 (pc' := 277) (st := [_, _]) (k_X10_sign t _ _ _ _ _ _ _ _ _ _ _ _ _ _ _ _ _ _ _ _ _ _ i ht hx (by omega)) ok_X10_sign lm_X10_62 dX10_readsSheet_274 rfl (wM_ok _ _ _ _ _ _ _ _ _ _ _ _ _ _ _ _ _ _ _ _ _ _) rfl rfl (Nat.le_of_ble_eq_true rfl) rfl rfl rfl rfl (by decide) (Nat.le_of_ble_eq_true rfl) rfl (by decide) (by decide) rfl rfl ?_
                refine wa_iastore (pc' := 278) (w' := [_, _, _, _, _, _, zA _ _ _, _, _, _]) dX10_readsSheet_277 rfl rfl (by omega) (by omega) (by decide) rfl ?_
                refine wa_iinc (pc' := 281) (ls' := [(1, _), (0, _)]) dX10_readsSheet_278 rfl rfl (by decide) rfl ?_
                refine wa_aload_n (pc' := 282) dX10_readsSheet_281 rfl rfl rfl ?_
                refine wa_dup (pc' := 283) dX10_readsSheet_282 rfl rfl ?_
                refine wa_getfield (pc' := 286) (j := 11) zc_X10 lk_X10_59 dX10_readsSheet_283 rfl (by decide) rfl rfl ?_
                refine wa_iconst (pc' := 287) dX10_readsSheet_286 rfl ?_
                refine wa_iadd (pc' := 288) dX10_readsSheet_287 rfl ?_
                refine wa_putfield (pc' := 291) (j := 11) (w' := [zO _ [_, _, _, _, _, _, _, _, _, _, _, _, _, _, _, _, _, _, _, _, _, _, _, _], _, _, _, _, _, _, _, _, _]) zc_X10 lk_X10_59 dX10_readsSheet_288 rfl (by decide) rfl rfl (Nat.le_of_ble_eq_true rfl) True.intro rfl ?_
                refine wa_goto (pc' := 36) dX10_readsSheet_291 (by decide) ?_
                have ih9 := ih (i + 1) (shAdd s (gT t i)) k (zup md (415 + s.2.1 s.2.2.2.1) (gT t i)) nt rr rq rb wh (by omega) (okD_add hd (by omega) _ (by have := gT_p ht i hi.1 (by omega); omega)) (okW_add hw hd (by omega) _ (by have := gT_p ht i hi.1 (by omega); omega)) (Vm_add hm9 hd _ (by omega) (by omega)) hq (by omega) hR
                rw [show (shAdd s (gT t i)).2.1 (shAdd s (gT t i)).2.2.2.1 = s.2.1 s.2.2.2.1 + 1 from (zup9_eq : zup s.2.1 s.2.2.2.1 (s.2.1 s.2.2.2.1 + 1) s.2.2.2.1 = s.2.1 s.2.2.2.1 + 1)] at ih9
                exact ih9
              · rw [if_pos c230] at hR
                refine wa_aload_n (pc' := 234) dX10_readsSheet_233 rfl rfl rfl ?_
                refine wa_getfield (pc' := 237) (j := 17) zc_X10 lk_X10_34 dX10_readsSheet_234 rfl (by decide) rfl rfl ?_
                refine wa_iconst (pc' := 238) dX10_readsSheet_237 rfl ?_
                refine wa_aload_n (pc' := 239) dX10_readsSheet_238 rfl rfl rfl ?_
                refine wa_getfield (pc' := 242) (j := 17) zc_X10 lk_X10_34 dX10_readsSheet_239 rfl (by decide) rfl rfl ?_
                refine wa_iconst (pc' := 243) dX10_readsSheet_242 rfl ?_
                refine wa_iaload (pc' := 244) dX10_readsSheet_243 rfl rfl (by omega) (by omega) (by decide) ?_
                rw [m0]
                refine wa_iadd (pc' := 245) dX10_readsSheet_244 rfl ?_
                refine wa_iload_n (pc' := 246) dX10_readsSheet_245 rfl rfl rfl ?_
                refine wa_iastore (pc' := 247) (w' := [_, _, _, _, _, _, zA _ _ _, _, _, _]) dX10_readsSheet_246 rfl rfl (by omega) (by omega) (by decide) rfl ?_
                refine wa_aload_n (pc' := 248) dX10_readsSheet_247 rfl rfl rfl ?_
                refine wa_getfield (pc' := 251) (j := 17) zc_X10 lk_X10_34 dX10_readsSheet_248 rfl (by decide) rfl rfl ?_
                refine wa_iconst (pc' := 252) dX10_readsSheet_251 rfl ?_
                refine wa_dup2 (pc' := 253) dX10_readsSheet_252 rfl rfl rfl ?_
                refine wa_iaload (pc' := 254) dX10_readsSheet_253 rfl rfl (by omega) (by omega) (by decide) ?_
                rw [zup9_ne (by omega), m0]
                refine wa_iconst (pc' := 255) dX10_readsSheet_254 rfl ?_
                refine wa_iadd (pc' := 256) dX10_readsSheet_255 rfl ?_
                refine wa_iastore (pc' := 257) (w' := [_, _, _, _, _, _, zA _ _ _, _, _, _]) dX10_readsSheet_256 rfl rfl (by omega) (by omega) (by decide) rfl ?_
                refine wa_goto (pc' := 281) dX10_readsSheet_257 (by decide) ?_
                refine wa_aload_n (pc' := 282) dX10_readsSheet_281 rfl rfl rfl ?_
                refine wa_dup (pc' := 283) dX10_readsSheet_282 rfl rfl ?_
                refine wa_getfield (pc' := 286) (j := 11) zc_X10 lk_X10_59 dX10_readsSheet_283 rfl (by decide) rfl rfl ?_
                refine wa_iconst (pc' := 287) dX10_readsSheet_286 rfl ?_
                refine wa_iadd (pc' := 288) dX10_readsSheet_287 rfl ?_
                refine wa_putfield (pc' := 291) (j := 11) (w' := [zO _ [_, _, _, _, _, _, _, _, _, _, _, _, _, _, _, _, _, _, _, _, _, _, _, _], _, _, _, _, _, _, _, _, _]) zc_X10 lk_X10_59 dX10_readsSheet_288 rfl (by decide) rfl rfl (Nat.le_of_ble_eq_true rfl) True.intro rfl ?_
                refine wa_goto (pc' := 36) dX10_readsSheet_291 (by decide) ?_
                have ih9 := ih (i + 1) (shLine s) k (zup (zup md (4 + s.2.2.2.1) (s.2.1 s.2.2.2.1)) 0 (s.2.2.2.1 + 1)) nt rr rq rb wh (by omega) (okD_line hd (by omega)) (okW_line hw hd (by omega)) (Vm_line hm9 hd (by omega) (by omega)) hq (by omega) hR
                rw [show (shLine s).2.1 (shLine s).2.2.2.1 = s.2.1 s.2.2.2.1 from (zup9_eq : zup s.2.1 (s.2.2.2.1 + 1) (s.2.1 s.2.2.2.1) (s.2.2.2.1 + 1) = s.2.1 s.2.2.2.1)] at ih9
                exact ih9
            · rw [if_pos c96, if_neg (by omega)] at hR
              have M := mc_ch (gT t) 93 (i + 1) k.2.2.1 rr rq rb wh hq
              have cb := chR_b (gT t) (i + 1) k.2.2.1 hq
              have M01 := mcR_01 (gT t) 93 (i + 1) rr rq rb wh
              refine wa_aload_n (pc' := 100) dX10_readsSheet_99 rfl rfl rfl ?_
              refine wa_dup (pc' := 101) dX10_readsSheet_100 rfl rfl ?_
              refine wa_getfield (pc' := 104) (j := 11) zc_X10 lk_X10_59 dX10_readsSheet_101 rfl (by decide) rfl rfl ?_
              refine wa_iconst (pc' := 105) dX10_readsSheet_104 rfl ?_
              refine wa_iadd (pc' := 106) dX10_readsSheet_105 rfl ?_
              refine wa_putfield (pc' := 109) (j := 11) (w' := [zO _ [_, _, _, _, _, _, _, _, _, _, _, _, _, _, _, _, _, _, _, _, _, _, _, _], _, _, _, _, _, _, _, _, _]) zc_X10 lk_X10_59 dX10_readsSheet_106 rfl (by decide) rfl rfl (Nat.le_of_ble_eq_true rfl) True.intro rfl ?_
              refine wa_aload_n (pc' := 110) dX10_readsSheet_109 rfl rfl rfl ?_
              refine wa_bipush (pc' := 112) dX10_readsSheet_110 rfl rfl ?_
              refine wa_iD2 (pc' := 115) (st := []) (k_X10_readsChord t _ _ _ _ _ _ _ _ _ _ _ _ _ _ _ _ _ _ _ _ _ _ 93 ht hx (by omega) (by omega)) ok_X10_readsChord lm_X10_90 dX10_readsSheet_112 rfl (wM_ok _ _ _ _ _ _ _ _ _ _ _ _ _ _ _ _ _ _ _ _ _ _) (Eq.refl 10) (wM_ok _ _ _ _ _ _ _ _ _ _ _ _ _ _ _ _ _ _ _ _ _ _) rfl rfl (Nat.le_of_ble_eq_true rfl) rfl rfl rfl rfl (by decide) (Nat.le_of_ble_eq_true rfl) rfl (by decide) (by decide) rfl rfl ?_
              show Wa _ _ _ _ _ _ _ _ [_] _ _ _
              refine wa_if_ne (tgt := 120) (pc' := 118) dX10_readsSheet_115 (by decide) rfl (by omega) (fun c115 => ?_) (fun c115 => ?_)
              · have h115 := M.2.1.mp (by omega)
                have h116 := M.2.2 (by omega)
                have h117 := chR_n (gT t) (i + 1) k.2.2.1 hq h115.1
                rw [if_neg (show ¬ (chR (gT t) (i + 1) k.2.2.1).2.2.2.2 = 0 by omega), if_pos h115.2] at hR
                refine wa_aload_n (pc' := 121) dX10_readsSheet_120 rfl rfl rfl ?_
                refine wa_getfield (pc' := 124) (j := 17) zc_X10 lk_X10_34 dX10_readsSheet_121 rfl (by decide) rfl rfl ?_
                refine wa_iconst (pc' := 125) dX10_readsSheet_124 rfl ?_
                refine wa_iaload (pc' := 126) dX10_readsSheet_125 rfl rfl (by omega) (by omega) (by decide) ?_
                rw [m1]
                refine wa_dS (pc' := 129) (w' := [_, _, _, _, _, _, _, _, _, _]) (k_X10_chord s.2.2.2.2.1 (by omega)) ok_X10_chord lm_X10_94 dX10_readsSheet_126 rfl [] rfl (by decide) rfl rfl (by decide) (Nat.le_of_ble_eq_true rfl) rfl (by decide) (by decide) rfl rfl rfl ?_
                refine wa_istore_n (pc' := 130) (ls' := [(2, _), (1, _), (0, _)]) dX10_readsSheet_129 rfl rfl (by decide) rfl ?_
                refine wa_aload_n (pc' := 131) dX10_readsSheet_130 rfl rfl rfl ?_
                refine wa_getfield (pc' := 134) (j := 17) zc_X10 lk_X10_34 dX10_readsSheet_131 rfl (by decide) rfl rfl ?_
                refine wa_iload_n (pc' := 135) dX10_readsSheet_134 rfl rfl rfl ?_
                refine wa_iconst (pc' := 136) dX10_readsSheet_135 rfl ?_
                refine wa_iadd (pc' := 137) dX10_readsSheet_136 rfl ?_
                refine wa_aload_n (pc' := 138) dX10_readsSheet_137 rfl rfl rfl ?_
                refine wa_getfield (pc' := 141) (j := 17) zc_X10 lk_X10_34 dX10_readsSheet_138 rfl (by decide) rfl rfl ?_
                refine wa_iconst (pc' := 142) dX10_readsSheet_141 rfl ?_
                refine wa_iaload (pc' := 143) dX10_readsSheet_142 rfl rfl (by omega) (by omega) (by decide) ?_
                rw [m0]
                refine wa_iconst (pc' := 144) dX10_readsSheet_143 rfl ?_
                refine wa_isub (pc' := 145) dX10_readsSheet_144 rfl ?_
                refine wa_iastore (pc' := 146) (w' := [_, _, _, _, _, _, zA _ _ _, _, _, _]) dX10_readsSheet_145 rfl rfl (by omega) (by omega) (by decide) rfl ?_
                refine wa_aload_n (pc' := 147) dX10_readsSheet_146 rfl rfl rfl ?_
                refine wa_getfield (pc' := 150) (j := 17) zc_X10 lk_X10_34 dX10_readsSheet_147 rfl (by decide) rfl rfl ?_
                refine wa_iload_n (pc' := 151) dX10_readsSheet_150 rfl rfl rfl ?_
                refine wa_iconst (pc' := 152) dX10_readsSheet_151 rfl ?_
                refine wa_iadd (pc' := 153) dX10_readsSheet_152 rfl ?_
                refine wa_iload_n (pc' := 154) dX10_readsSheet_153 rfl rfl rfl ?_
                refine wa_aload_n (pc' := 155) dX10_readsSheet_154 rfl rfl rfl ?_
                refine wa_getfield (pc' := 158) (j := 17) zc_X10 lk_X10_34 dX10_readsSheet_155 rfl (by decide) rfl rfl ?_
                refine wa_iconst (pc' := 159) dX10_readsSheet_158 rfl ?_
                refine wa_aload_n (pc' := 160) dX10_readsSheet_159 rfl rfl rfl ?_
                refine wa_getfield (pc' := 163) (j := 17) zc_X10 lk_X10_34 dX10_readsSheet_160 rfl (by decide) rfl rfl ?_
                refine wa_iconst (pc' := 164) dX10_readsSheet_163 rfl ?_
                refine wa_iaload (pc' := 165) dX10_readsSheet_164 rfl rfl (by omega) (by omega) (by decide) ?_
                refine wa_iadd (pc' := 166) dX10_readsSheet_165 rfl ?_
                rw [zup9_ne (by omega), m0]
                refine wa_iconst (pc' := 167) dX10_readsSheet_166 rfl ?_
                refine wa_isub (pc' := 168) dX10_readsSheet_167 rfl ?_
                refine wa_iaload (pc' := 169) dX10_readsSheet_168 rfl rfl (by omega) (by omega) (by decide) ?_
                rw [show 4 + s.2.2.2.1 - 1 = 4 + (s.2.2.2.1 - 1) by omega, zup9_ne (by omega), mT (s.2.2.2.1 - 1) (by omega) (by omega)]
                refine wa_isub (pc' := 170) dX10_readsSheet_169 rfl ?_
                refine wa_iastore (pc' := 171) (w' := [_, _, _, _, _, _, zA _ _ _, _, _, _]) dX10_readsSheet_170 rfl rfl (by omega) (by omega) (by decide) rfl ?_
                refine wa_aload_n (pc' := 172) dX10_readsSheet_171 rfl rfl rfl ?_
                refine wa_getfield (pc' := 175) (j := 17) zc_X10 lk_X10_34 dX10_readsSheet_172 rfl (by decide) rfl rfl ?_
                refine wa_iload_n (pc' := 176) dX10_readsSheet_175 rfl rfl rfl ?_
                refine wa_iconst (pc' := 177) dX10_readsSheet_176 rfl ?_
                refine wa_iadd (pc' := 178) dX10_readsSheet_177 rfl ?_
                refine wa_aload_n (pc' := 179) dX10_readsSheet_178 rfl rfl rfl ?_
                refine wa_getfield (pc' := 182) (j := 13) zc_X10 lk_X10_78 dX10_readsSheet_179 rfl (by decide) rfl rfl ?_
                refine wa_iastore (pc' := 183) (w' := [_, _, _, _, _, _, zA _ _ _, _, _, _]) dX10_readsSheet_182 rfl rfl (by omega) (by omega) (by decide) rfl ?_
                refine wa_aload_n (pc' := 184) dX10_readsSheet_183 rfl rfl rfl ?_
                refine wa_getfield (pc' := 187) (j := 17) zc_X10 lk_X10_34 dX10_readsSheet_184 rfl (by decide) rfl rfl ?_
                refine wa_iload_n (pc' := 188) dX10_readsSheet_187 rfl rfl rfl ?_
                refine wa_iconst (pc' := 189) dX10_readsSheet_188 rfl ?_
                refine wa_iadd (pc' := 190) dX10_readsSheet_189 rfl ?_
                refine wa_aload_n (pc' := 191) dX10_readsSheet_190 rfl rfl rfl ?_
                refine wa_getfield (pc' := 194) (j := 14) zc_X10 lk_X10_87 dX10_readsSheet_191 rfl (by decide) rfl rfl ?_
                refine wa_iastore (pc' := 195) (w' := [_, _, _, _, _, _, zA _ _ _, _, _, _]) dX10_readsSheet_194 rfl rfl (by omega) (by omega) (by decide) rfl ?_
                refine wa_aload_n (pc' := 196) dX10_readsSheet_195 rfl rfl rfl ?_
                refine wa_getfield (pc' := 199) (j := 17) zc_X10 lk_X10_34 dX10_readsSheet_196 rfl (by decide) rfl rfl ?_
                refine wa_iload_n (pc' := 200) dX10_readsSheet_199 rfl rfl rfl ?_
                refine wa_iconst (pc' := 201) dX10_readsSheet_200 rfl ?_
                refine wa_iadd (pc' := 202) dX10_readsSheet_201 rfl ?_
                refine wa_aload_n (pc' := 203) dX10_readsSheet_202 rfl rfl rfl ?_
                refine wa_getfield (pc' := 206) (j := 15) zc_X10 lk_X10_81 dX10_readsSheet_203 rfl (by decide) rfl rfl ?_
                refine wa_iastore (pc' := 207) (w' := [_, _, _, _, _, _, zA _ _ _, _, _, _]) dX10_readsSheet_206 rfl rfl (by omega) (by omega) (by decide) rfl ?_
                refine wa_aload_n (pc' := 208) dX10_readsSheet_207 rfl rfl rfl ?_
                refine wa_getfield (pc' := 211) (j := 17) zc_X10 lk_X10_34 dX10_readsSheet_208 rfl (by decide) rfl rfl ?_
                refine wa_iconst (pc' := 212) dX10_readsSheet_211 rfl ?_
                refine wa_dup2 (pc' := 213) dX10_readsSheet_212 rfl rfl rfl ?_
                refine wa_iaload (pc' := 214) dX10_readsSheet_213 rfl rfl (by omega) (by omega) (by decide) ?_
                rw [zup9_ne (by omega), zup9_ne (by omega), zup9_ne (by omega), zup9_ne (by omega), zup9_ne (by omega), m1]
                refine wa_iconst (pc' := 215) dX10_readsSheet_214 rfl ?_
                refine wa_iadd (pc' := 216) dX10_readsSheet_215 rfl ?_
                refine wa_iastore (pc' := 217) (w' := [_, _, _, _, _, _, zA _ _ _, _, _, _]) dX10_readsSheet_216 rfl rfl (by omega) (by omega) (by decide) rfl ?_
                refine wa_goto (pc' := 281) dX10_readsSheet_217 (by decide) ?_
                refine wa_aload_n (pc' := 282) dX10_readsSheet_281 rfl rfl rfl ?_
                refine wa_dup (pc' := 283) dX10_readsSheet_282 rfl rfl ?_
                refine wa_getfield (pc' := 286) (j := 11) zc_X10 lk_X10_59 dX10_readsSheet_283 rfl (by decide) rfl rfl ?_
                refine wa_iconst (pc' := 287) dX10_readsSheet_286 rfl ?_
                refine wa_iadd (pc' := 288) dX10_readsSheet_287 rfl ?_
                refine wa_putfield (pc' := 291) (j := 11) (w' := [zO _ [_, _, _, _, _, _, _, _, _, _, _, _, _, _, _, _, _, _, _, _, _, _, _, _], _, _, _, _, _, _, _, _, _]) zc_X10 lk_X10_59 dX10_readsSheet_288 rfl (by decide) rfl rfl (Nat.le_of_ble_eq_true rfl) True.intro rfl ?_
                refine wa_goto (pc' := 36) dX10_readsSheet_291 (by decide) ?_
                refine wa_sub [1, 2] rfl ?_
                rw [h116.1, h116.2.1, h116.2.2, M.1]
                exact ih ((chR (gT t) (i + 1) k.2.2.1).1 + 1) (shApp s (chR (gT t) (i + 1) k.2.2.1).2.1 (chR (gT t) (i + 1) k.2.2.1).2.2.1 (chR (gT t) (i + 1) k.2.2.1).2.2.2.1) (chR (gT t) (i + 1) k.2.2.1) _ _ _ _ _ _ (by omega) (okD_le (okD_app hd (by omega) (by omega) _ _ _ (by omega) (by omega) (by omega)) (by omega)) (okW_app hw (by omega) (by omega) (by omega) (by omega)) (Vm_app hm9 hw (by omega) _ _ _) (by omega) (by omega) hR
              · have h115 : R = ((chR (gT t) (i + 1) k.2.2.1).1, s, (chR (gT t) (i + 1) k.2.2.1)) := by
                  rw [← hR]
                  by_cases q1 : (chR (gT t) (i + 1) k.2.2.1).2.2.2.2 = 0
                  · rw [if_pos q1]
                  · rw [if_neg q1, if_neg (fun q2 => by have := M.2.1.mpr ⟨by omega, q2⟩; omega)]
                subst h115
                refine wa_iconst (pc' := 119) dX10_readsSheet_118 rfl ?_
                refine wa_zret dX10_readsSheet_119 rfl (by decide) (by decide) (by omega) ?_
                exact ⟨(md, (mcR (gT t) (93) (i + 1) rr rq rb wh).2.1, (mcR (gT t) (93) (i + 1) rr rq rb wh).2.2.1, (mcR (gT t) (93) (i + 1) rr rq rb wh).2.2.2.1, (mcR (gT t) (93) (i + 1) rr rq rb wh).2.2.2.2.1, (mcR (gT t) (93) (i + 1) rr rq rb wh).2.2.2.2.2.1, (mcR (gT t) (93) (i + 1) rr rq rb wh).2.2.2.2.2.2), ⟨fun _ => M.1, fun h => absurd (show (chR (gT t) (i + 1) k.2.2.1).1 = -1 from h) (by omega)⟩, by rw [if_neg (show ¬ (chR (gT t) (i + 1) k.2.2.1).1 = -1 by omega)], rfl⟩
          · rw [if_pos c70, if_pos (by omega)] at hR
            subst hR
            refine wa_iconst (pc' := 85) dX10_readsSheet_84 rfl ?_
            refine wa_zret dX10_readsSheet_85 rfl (by decide) (by decide) (by omega) ?_
            exact ⟨(md, i, nt, rr, rq, rb, wh), ⟨fun _ => rfl, fun h => absurd (show i = -1 from h) (by omega)⟩, by rw [if_neg (show ¬ i = -1 by omega)], rfl⟩

set_option maxRecDepth 10000 in
set_option maxHeartbeats 1000000 in
theorem l_reads0 (t : zRw) (v pa : Int → Int) (sn : Int) (tx : Int → Int) (ty si fl wi th : Int) (na : Int → Int) (nd : Int) (up lo : Int → Int) (us lw : Int) (ap nt rr rq rb wh : Int) (ht : okT t) (hx : Tr t tx ty) (D : zSh) (k : zKd) (hD : okD 200 D) (hq : 0 ≤ k.2.2.1 ∧ k.2.2.1 < 10) (R : Int × zSh × zKd) (hR : (rdS (gT t) t.1 (t.1.toNat + 1) 0 (shClr D) k) = R) (md0 : Int → Int) : ∀ (m : Nat) (j : Int) (md : Int → Int), 0 ≤ j → j + m = 620 → zeR m j md = zeR 620 0 md0 → Wa q_X10_readsSheet 4 0 0 10 (fun o w' => ∃ x : zX7, ((¬ R.1 = -1 → x.2.1 = R.1) ∧ (R.1 = -1 → Vn R.2.1 x.1)) ∧ o = .inl (some (zI (if R.1 = -1 then 1 else 0))) ∧ w' = (wM v pa sn tx ty si fl wi th x.2.1 x.2.2.1 x.2.2.2.1 x.2.2.2.2.1 x.2.2.2.2.2.1 x.2.2.2.2.2.2 x.1 na nd up lo us lw)) 2 [(1, zI j), (0, zR 0)] [] (wM v pa sn tx ty si fl wi th ap nt rr rq rb wh md na nd up lo us lw) 0 0 := by
  obtain ⟨t1, t2, t3⟩ := id ht
  intro m
  induction m with
  | zero =>
    intro j md h0 hm hz
    have hz2 : md = zeR 620 0 md0 := hz
    refine wa_iload_n (pc' := 3) dX10_readsSheet_2 rfl rfl rfl ?_
    refine wa_sipush (pc' := 6) dX10_readsSheet_3 rfl rfl ?_
    refine wa_icmp_ge (tgt := 22) (pc' := 9) dX10_readsSheet_6 (by decide) rfl (by omega) (by omega) (fun c6 => ?_) (fun c6 => ?_)
    · refine wa_aload_n (pc' := 23) dX10_readsSheet_22 rfl rfl rfl ?_
      refine wa_getfield (pc' := 26) (j := 17) zc_X10 lk_X10_34 dX10_readsSheet_23 rfl (by decide) rfl rfl ?_
      refine wa_iconst (pc' := 27) dX10_readsSheet_26 rfl ?_
      refine wa_iconst (pc' := 28) dX10_readsSheet_27 rfl ?_
      refine wa_iastore (pc' := 29) (w' := [_, _, _, _, _, _, zA _ _ _, _, _, _]) dX10_readsSheet_28 rfl rfl (by omega) (by omega) (by decide) rfl ?_
      refine wa_iconst (pc' := 30) dX10_readsSheet_29 rfl ?_
      refine wa_istore_n (pc' := 31) (ls' := [(1, _), (0, _)]) dX10_readsSheet_30 rfl rfl (by decide) rfl ?_
      refine wa_aload_n (pc' := 32) dX10_readsSheet_31 rfl rfl rfl ?_
      refine wa_iconst (pc' := 33) dX10_readsSheet_32 rfl ?_
      refine wa_putfield (pc' := 36) (j := 11) (w' := [zO _ [_, _, _, _, _, _, _, _, _, _, _, _, _, _, _, _, _, _, _, _, _, _, _, _], _, _, _, _, _, _, _, _, _]) zc_X10 lk_X10_59 dX10_readsSheet_33 rfl (by decide) rfl rfl (Nat.le_of_ble_eq_true rfl) True.intro rfl ?_
      rw [hz2]
      have h36 := l_reads t v pa sn tx ty si fl wi th na nd up lo us lw ht hx R (t.1.toNat + 1) 0 (shClr D) k (zup (zeR 620 0 md0) 0 1) nt rr rq rb wh (by omega) (okD_clr hD) (okW_clr hD) (Vm_0 D md0) hq (by omega) hR
      rw [show (shClr D).2.1 (shClr D).2.2.2.1 = 0 from (zup9_eq : zup (zup D.2.1 0 0) 1 0 1 = 0)] at h36
      exact h36
    · exact absurd c6 (by omega)
  | succ m ih =>
    intro j md h0 hm hz
    refine wa_iload_n (pc' := 3) dX10_readsSheet_2 rfl rfl rfl ?_
    refine wa_sipush (pc' := 6) dX10_readsSheet_3 rfl rfl ?_
    refine wa_icmp_ge (tgt := 22) (pc' := 9) dX10_readsSheet_6 (by decide) rfl (by omega) (by omega) (fun c6 => ?_) (fun c6 => ?_)
    · exact absurd c6 (by omega)
    · refine wa_aload_n (pc' := 10) dX10_readsSheet_9 rfl rfl rfl ?_
      refine wa_getfield (pc' := 13) (j := 17) zc_X10 lk_X10_34 dX10_readsSheet_10 rfl (by decide) rfl rfl ?_
      refine wa_iload_n (pc' := 14) dX10_readsSheet_13 rfl rfl rfl ?_
      refine wa_iconst (pc' := 15) dX10_readsSheet_14 rfl ?_
      refine wa_iastore (pc' := 16) (w' := [_, _, _, _, _, _, zA _ _ _, _, _, _]) dX10_readsSheet_15 rfl rfl (by omega) (by omega) (by decide) rfl ?_
      refine wa_iinc (pc' := 19) (ls' := [(1, _), (0, _)]) dX10_readsSheet_16 rfl rfl (by decide) rfl ?_
      refine wa_goto (pc' := 2) dX10_readsSheet_19 (by decide) ?_
      exact ih (j + 1) _ (by omega) (by omega) hz

set_option maxRecDepth 10000 in
set_option maxHeartbeats 1000000 in
theorem k_X10_readsSheet (t : zRw) (v pa : Int → Int) (sn : Int) (tx : Int → Int) (ty si fl wi th : Int) (na : Int → Int) (nd : Int) (up lo : Int → Int) (us lw : Int) (md : Int → Int) (ap nt rr rq rb wh : Int) (ht : okT t) (hx : Tr t tx ty) (D : zSh) (k : zKd) (hD : okD 200 D) (hq : 0 ≤ k.2.2.1 ∧ k.2.2.1 < 10) : zMet q_X10_readsSheet 4 0 0 [zR 0] (wM v pa sn tx ty si fl wi th ap nt rr rq rb wh md na nd up lo us lw) (fun o w' => ∃ x : zX7, ((¬ (rdS (gT t) t.1 (t.1.toNat + 1) 0 (shClr D) k).1 = -1 → x.2.1 = (rdS (gT t) t.1 (t.1.toNat + 1) 0 (shClr D) k).1) ∧ ((rdS (gT t) t.1 (t.1.toNat + 1) 0 (shClr D) k).1 = -1 → Vn (rdS (gT t) t.1 (t.1.toNat + 1) 0 (shClr D) k).2.1 x.1)) ∧ o = .inl (some (zI (if (rdS (gT t) t.1 (t.1.toNat + 1) 0 (shClr D) k).1 = -1 then 1 else 0))) ∧ w' = (wM v pa sn tx ty si fl wi th x.2.1 x.2.2.1 x.2.2.2.1 x.2.2.2.2.1 x.2.2.2.2.2.1 x.2.2.2.2.2.2 x.1 na nd up lo us lw)) := by
  refine z_introF (ls := [(0, _)]) (by decide +kernel) rfl (fun _ _ => rfl) (fun _ _ => Nat.le_of_ble_eq_true rfl) ?_
  refine wa_iconst (pc' := 1) dX10_readsSheet_0 rfl ?_
  refine wa_istore_n (pc' := 2) (ls' := [(1, _), (0, _)]) dX10_readsSheet_1 rfl rfl (by decide) rfl ?_
  exact l_reads0 t v pa sn tx ty si fl wi th na nd up lo us lw ap nt rr rq rb wh ht hx D k hD hq _ rfl md 620 0 md (by omega) (by omega) rfl

