/-! the reference: the text read -/
theorem mq_qu (g : Int → Int) (p : Int) : ∀ (m : Nat) (q lo fo qu be wh : Int), (fo = 0 ∨ fo = 1) → (fo = 1 → qu = be) → (quR g p m q lo fo qu).1 = (mqR g p m q lo be fo wh).1 ∧ (quR g p m q lo fo qu).2.1 = (mqR g p m q lo be fo wh).2.2.1 ∧ ((quR g p m q lo fo qu).2.1 = 1 → (quR g p m q lo fo qu).2.2 = (mqR g p m q lo be fo wh).2.1)
  | 0, q, lo, fo, qu, be, wh, h1, h2 => ⟨rfl, rfl, h2⟩
  | m + 1, q, lo, fo, qu, be, wh, h1, h2 => by
    rw [quR, mqR]
    generalize shR g p (zBytes.getD q.toNat []) 0 = x
    generalize ((zBytes.getD q.toNat []).length : Int) = n
    by_cases c1 : x > lo
    · rw [if_pos c1, if_pos (show lo < x ∨ _ from Or.inl c1)]
      by_cases c2 : x = n
      · rw [if_pos c2, if_pos c2]
        exact mq_qu g p m (q + 1) x 1 q q 1 (Or.inr rfl) (fun _ => rfl)
      · rw [if_neg c2, if_neg c2]
        exact mq_qu g p m (q + 1) x 0 qu q 0 (Or.inl rfl) (fun h => absurd h (by decide))
    · rw [if_neg c1]
      by_cases c2 : x = lo ∧ x = n
      · rw [if_pos c2, if_pos (show lo < x ∨ (x = lo ∧ (if x = n then (1 : Int) else 0) = 1) from Or.inr ⟨c2.1, if_pos c2.2⟩), if_pos c2.2, ← c2.1]
        exact mq_qu g p m (q + 1) x 1 q q 1 (Or.inr rfl) (fun _ => rfl)
      · rw [if_neg c2, if_neg (show ¬ (lo < x ∨ (x = lo ∧ (if x = n then (1 : Int) else 0) = 1)) from fun h => by
          rcases h with h | ⟨h, h3⟩
          · exact c1 h
          · split at h3
            · rename_i h4; exact c2 ⟨h, h4⟩
            · exact absurd h3 (by decide))]
        exact mq_qu g p m (q + 1) lo fo qu be _ h1 h2
theorem mq_quF (g : Int → Int) (p qu wh : Int) : (quF g p qu).1 = (mqR g p 10 0 0 0 0 wh).1 ∧ (quF g p qu).2.1 = (mqR g p 10 0 0 0 0 wh).2.2.1 ∧ ((quF g p qu).2.1 = 1 → (quF g p qu).2.2 = (mqR g p 10 0 0 0 0 wh).2.1) := by
  have e0 : shR g p (zBytes.getD (0 : Int).toNat []) 0 = 0 := rfl
  have e1 : ((zBytes.getD (0 : Int).toNat []).length : Int) = 0 := rfl
  unfold quF
  rw [quR, mqR, e0, e1, if_pos (show (0 : Int) > -1 by decide), if_pos (show (0 : Int) = 0 from rfl), if_pos (show (0 : Int) = 0 from rfl), if_pos (show (0 : Int) < 0 ∨ ((0 : Int) = 0 ∧ (1 : Int) = 1) from Or.inr ⟨rfl, rfl⟩)]
  exact mq_qu g p 9 (0 + 1) 0 1 0 0 1 (Or.inr rfl) (fun _ => rfl)
/-- the reference reads a chord as the class does -/
theorem mc_ch (g : Int → Int) (e p qu rr rq rb wh : Int) (hq : 0 ≤ qu ∧ qu < 10) : (mcR g e p rr rq rb wh).2.1 = (chR g p qu).1 ∧ ((mcR g e p rr rq rb wh).1 = 1 ↔ ((chR g p qu).2.2.2.2 = 1 ∧ g (chR g p qu).1 = e)) ∧ ((mcR g e p rr rq rb wh).1 = 1 → (mcR g e p rr rq rb wh).2.2.2.1 = (chR g p qu).2.1 ∧ (mcR g e p rr rq rb wh).2.2.2.2.1 = (chR g p qu).2.2.1 ∧ (mcR g e p rr rq rb wh).2.2.2.2.2.1 = (chR g p qu).2.2.2.1) := by
  have hn := ntR_100 g p
  obtain ⟨q1, q2, q3⟩ := mq_quF g (ntR g p).2 qu wh
  have q4 := quF_b g (ntR g p).2 qu hq
  unfold mcR chR
  by_cases c1 : nat9 (g p) = 100
  · rw [if_pos c1, if_pos (hn.mpr c1)]
    exact ⟨rfl, ⟨fun h => absurd h (show ¬ (0 : Int) = 1 by decide), fun h => absurd h.1 (show ¬ (0 : Int) = 1 by decide)⟩, fun h => absurd h (show ¬ (0 : Int) = 1 by decide)⟩
  rw [if_neg c1, if_neg (fun h => c1 (hn.mp h)), ← q1, ← q2]
  by_cases c2 : (quF g (ntR g p).2 qu).2.1 = 0
  · rw [if_pos c2, if_pos c2]
    exact ⟨rfl, ⟨fun h => absurd h (show ¬ (0 : Int) = 1 by decide), fun h => absurd h.1 (show ¬ (0 : Int) = 1 by decide)⟩, fun h => absurd h (show ¬ (0 : Int) = 1 by decide)⟩
  have c3 : (quF g (ntR g p).2 qu).2.1 = 1 := by omega
  rw [if_neg c2, if_neg c2, ← q3 c3]
  generalize (ntR g p).2 + (quF g (ntR g p).2 qu).1 = p2
  have hn2 := ntR_100 g (p2 + 1)
  by_cases c4 : g p2 = 47
  · rw [if_pos c4, if_pos c4]
    by_cases c5 : nat9 (g (p2 + 1)) = 100
    · rw [if_pos c5]
      refine ⟨rfl, ⟨fun h => absurd h (show ¬ (0 : Int) = 1 by decide), fun h => ?_⟩, fun h => absurd h (show ¬ (0 : Int) = 1 by decide)⟩
      have h1 := h.1
      have h2 : (if (ntR g (p2 + 1)).1 = 100 then (0 : Int) else 1) = 1 := h1
      rw [if_pos (hn2.mpr c5)] at h2
      exact absurd h2 (by decide)
    · rw [if_neg c5, if_neg (fun h => c5 (hn2.mp h))]
      refine ⟨rfl, ⟨fun h => ?_, fun h => ?_⟩, fun _ => ⟨rfl, rfl, rfl⟩⟩
      · have h2 : (if g (ntR g (p2 + 1)).2 = e then (1 : Int) else 0) = 1 := h
        split at h2
        · rename_i h3; exact ⟨rfl, h3⟩
        · exact absurd h2 (by decide)
      · exact if_pos h.2
  · rw [if_neg c4, if_neg c4]
    refine ⟨rfl, ⟨fun h => ?_, fun h => ?_⟩, fun _ => ⟨rfl, rfl, rfl⟩⟩
    · have h2 : (if g p2 = e then (1 : Int) else 0) = 1 := h
      split at h2
      · rename_i h3; exact ⟨rfl, h3⟩
      · exact absurd h2 (by decide)
    · exact if_pos h.2
/-- the made row holds the sheet so far -/
def Vm (s : zSh) (v : Int → Int) : Prop := v 0 = s.2.2.2.1 ∧ v 1 = s.2.2.2.2.1 ∧ (∀ k : Int, 0 ≤ k → k < s.2.2.2.1 → v (4 + k) = s.2.1 k) ∧ (∀ t : Int, 0 ≤ t → t < 5 * s.2.2.2.2.1 → v (210 + t) = s.2.2.1 t) ∧ (∀ j : Int, 0 ≤ j → j < s.2.1 s.2.2.2.1 → v (415 + j) = s.1 j)
theorem Vm_add {s : zSh} {v : Int → Int} (h : Vm s v) {i : Int} (hd : okD i s) (c : Int) (hi : i < 200) (hcc : s.2.2.2.2.1 ≤ 40) : Vm (shAdd s c) (zup v (415 + s.2.1 s.2.2.2.1) c) := by
  obtain ⟨h0, h1, hT, hF, hL⟩ := h
  have a1 := hd.1
  have a2 := hd.2.1
  refine ⟨(zup9_ne (by omega)).trans h0, (zup9_ne (by omega)).trans h1, ?_, ?_, ?_⟩
  · intro k k0 k1
    have k1 : k < s.2.2.2.1 := k1
    show zup v (415 + s.2.1 s.2.2.2.1) c (4 + k) = zup s.2.1 s.2.2.2.1 (s.2.1 s.2.2.2.1 + 1) k
    rw [zup9_ne (by omega), zup9_ne (by omega)]
    exact hT k k0 k1
  · intro t t0 t1
    have t1 : t < 5 * s.2.2.2.2.1 := t1
    rw [zup9_ne (by omega)]
    exact hF t t0 t1
  · intro j j0 j1
    have j1 : j < zup s.2.1 s.2.2.2.1 (s.2.1 s.2.2.2.1 + 1) s.2.2.2.1 := j1
    rw [zup9_eq] at j1
    show zup v (415 + s.2.1 s.2.2.2.1) c (415 + j) = zup s.1 (s.2.1 s.2.2.2.1) c j
    by_cases hj : j = s.2.1 s.2.2.2.1
    · rw [hj, zup9_eq, zup9_eq]
    · rw [zup9_ne (by omega), zup9_ne hj]
      exact hL j j0 (by omega)
theorem Vm_line {s : zSh} {v : Int → Int} (h : Vm s v) {i : Int} (hd : okD i s) (hi : i < 200) (hcc : s.2.2.2.2.1 ≤ 40) : Vm (shLine s) (zup (zup v (4 + s.2.2.2.1) (s.2.1 s.2.2.2.1)) 0 (s.2.2.2.1 + 1)) := by
  obtain ⟨h0, h1, hT, hF, hL⟩ := h
  have a1 := hd.1
  have a2 := hd.2.1
  refine ⟨zup9_eq, ?_, ?_, ?_, ?_⟩
  · rw [zup9_ne (by omega), zup9_ne (by omega)]; exact h1
  · intro k k0 k1
    have k1 : k < s.2.2.2.1 + 1 := k1
    show zup (zup v (4 + s.2.2.2.1) (s.2.1 s.2.2.2.1)) 0 (s.2.2.2.1 + 1) (4 + k) = zup s.2.1 (s.2.2.2.1 + 1) (s.2.1 s.2.2.2.1) k
    rw [zup9_ne (by omega), zup9_ne (show ¬ k = s.2.2.2.1 + 1 by omega)]
    by_cases hk : k = s.2.2.2.1
    · rw [hk, zup9_eq]
    · rw [zup9_ne (by omega)]
      exact hT k k0 (by omega)
  · intro t t0 t1
    have t1 : t < 5 * s.2.2.2.2.1 := t1
    rw [zup9_ne (by omega), zup9_ne (by omega)]
    exact hF t t0 t1
  · intro j j0 j1
    have j1 : j < zup s.2.1 (s.2.2.2.1 + 1) (s.2.1 s.2.2.2.1) (s.2.2.2.1 + 1) := j1
    rw [zup9_eq] at j1
    rw [zup9_ne (by omega), zup9_ne (by omega)]
    exact hL j j0 j1
theorem cUT_all (F : Int → Int) (l k : Int) : ∀ (n : Nat) (i : Int), (∀ j : Int, i ≤ j → j < i + n → (F (j * 5 + 0) < l ∨ (F (j * 5 + 0) = l ∧ F (j * 5 + 1) ≤ k))) → cUT F l k n i = i + n
  | 0, i, h => by rw [cUT]; omega
  | n + 1, i, h => by
    rw [cUT, if_pos (h i (by omega) (by omega)), cUT_all F l k n (i + 1) (fun j j0 j1 => h j (by omega) (by omega))]
    omega
/-- all chords so far come before the end -/
theorem cUT_end {s : zSh} (hw : okW (sK s 0 0)) : cUT s.2.2.1 (s.2.2.2.1 - 1) (s.2.1 (s.2.2.2.1 - 1 + 1) - s.2.1 (s.2.2.2.1 - 1)) s.2.2.2.2.1.toNat 0 = s.2.2.2.2.1 := by
  have hc := hw.1.1.2.2.2.1
  have hc : 0 ≤ s.2.2.2.2.1 ∧ s.2.2.2.2.1 ≤ 40 := hc
  rw [cUT_all]
  · omega
  · intro j j0 j1
    have h1 := hw.1.2.2.2.2 j j0 (by show j < s.2.2.2.2.1; omega)
    have h2 := hw.2.2.2.1 j j0 (by show j < s.2.2.2.2.1; omega)
    have h1 : 0 ≤ s.2.2.1 (j * 5 + 0) ∧ s.2.2.1 (j * 5 + 0) < s.2.2.2.1 := h1
    have h2 : 0 ≤ s.2.2.1 (j * 5 + 1) ∧ s.2.2.1 (j * 5 + 1) ≤ s.2.1 (s.2.2.1 (j * 5 + 0) + 1) - s.2.1 (s.2.2.1 (j * 5 + 0)) := h2
    by_cases h3 : s.2.2.1 (j * 5 + 0) = s.2.2.2.1 - 1
    · rw [h3] at h2
      exact Or.inr ⟨h3, h2.2⟩
    · exact Or.inl (by omega)
theorem Vm_app {s : zSh} {v : Int → Int} (h : Vm s v) (hw : okW (sK s 0 0)) (hcc : s.2.2.2.2.1 < 40) (r q b : Int) : Vm (shApp s r q b) (zup (zup (zup (zup (zup (zup v (210 + 5 * s.2.2.2.2.1 + 0) (s.2.2.2.1 - 1)) (210 + 5 * s.2.2.2.2.1 + 1) (s.2.1 s.2.2.2.1 - s.2.1 (s.2.2.2.1 - 1))) (210 + 5 * s.2.2.2.2.1 + 2) r) (210 + 5 * s.2.2.2.2.1 + 3) q) (210 + 5 * s.2.2.2.2.1 + 4) b) 1 (s.2.2.2.2.1 + 1)) := by
  obtain ⟨h0, h1, hT, hF, hL⟩ := h
  have hc : 0 ≤ s.2.2.2.2.1 ∧ s.2.2.2.2.1 ≤ 40 := hw.1.1.2.2.2.1
  have hlc : 1 ≤ s.2.2.2.1 ∧ s.2.2.2.1 ≤ 200 + 1 := hw.1.1.1
  have hu := cUT_end hw
  unfold shApp
  rw [hu, show s.2.2.2.1 - 1 + 1 = s.2.2.2.1 by omega]
  refine ⟨?_, zup9_eq, ?_, ?_, ?_⟩
  · rw [zup9_ne (by omega), zup9_ne (by omega), zup9_ne (by omega), zup9_ne (by omega), zup9_ne (by omega), zup9_ne (by omega)]; exact h0
  · intro k k0 k1
    have k1 : k < s.2.2.2.1 := k1
    rw [zup9_ne (by omega), zup9_ne (by omega), zup9_ne (by omega), zup9_ne (by omega), zup9_ne (by omega), zup9_ne (by omega)]; exact hT k k0 k1
  · intro t t0 t1
    have t1 : t < 5 * (s.2.2.2.2.1 + 1) := t1
    show _ = insF s.2.2.1 s.2.2.2.2.1 s.2.2.2.2.1 (s.2.2.2.1 - 1) (s.2.1 s.2.2.2.1 - s.2.1 (s.2.2.2.1 - 1)) r q b t
    rw [insF_e, zup9_ne (by omega)]
    by_cases e4 : t = s.2.2.2.2.1 * 5 + 4
    · rw [if_pos e4, show 210 + t = 210 + 5 * s.2.2.2.2.1 + 4 by omega, zup9_eq]
    rw [if_neg e4, zup9_ne (by omega)]
    by_cases e3 : t = s.2.2.2.2.1 * 5 + 3
    · rw [if_pos e3, show 210 + t = 210 + 5 * s.2.2.2.2.1 + 3 by omega, zup9_eq]
    rw [if_neg e3, zup9_ne (by omega)]
    by_cases e2 : t = s.2.2.2.2.1 * 5 + 2
    · rw [if_pos e2, show 210 + t = 210 + 5 * s.2.2.2.2.1 + 2 by omega, zup9_eq]
    rw [if_neg e2, zup9_ne (by omega)]
    by_cases e1 : t = s.2.2.2.2.1 * 5 + 1
    · rw [if_pos e1, show 210 + t = 210 + 5 * s.2.2.2.2.1 + 1 by omega, zup9_eq]
    rw [if_neg e1, zup9_ne (by omega)]
    by_cases e0 : t = s.2.2.2.2.1 * 5 + 0
    · rw [if_pos e0, show 210 + t = 210 + 5 * s.2.2.2.2.1 + 0 by omega, zup9_eq]
    rw [if_neg e0, zup9_ne (by omega), if_neg (by omega)]
    exact hF t t0 (by omega)
  · intro j j0 j1
    rw [zup9_ne (by omega), zup9_ne (by omega), zup9_ne (by omega), zup9_ne (by omega), zup9_ne (by omega), zup9_ne (by omega)]; exact hL j j0 j1
theorem okW_app {s : zSh} (hw : okW (sK s 0 0)) (hcc : s.2.2.2.2.1 < 40) {r q b : Int} (hr : -9 ≤ r ∧ r ≤ 14) (hq : 0 ≤ q ∧ q < 10) (hb : b = 100 ∨ (-9 ≤ b ∧ b ≤ 14)) : okW (sK (shApp s r q b) 0 0) := by
  have hlc : 1 ≤ s.2.2.2.1 ∧ s.2.2.2.1 ≤ 200 + 1 := hw.1.1.1
  have hm := hw.2.2.1 (s.2.2.2.1 - 1) (by omega) (by show s.2.2.2.1 - 1 < s.2.2.2.1; omega)
  have hm : s.2.1 (s.2.2.2.1 - 1) ≤ s.2.1 (s.2.2.2.1 - 1 + 1) := hm
  exact okW_ins hw (l := s.2.2.2.1 - 1) (k := s.2.1 (s.2.2.2.1 - 1 + 1) - s.2.1 (s.2.2.2.1 - 1)) hcc (by show 0 ≤ s.2.2.2.1 - 1 ∧ s.2.2.2.1 - 1 < s.2.2.2.1; omega) (by show 0 ≤ s.2.1 (s.2.2.2.1 - 1 + 1) - s.2.1 (s.2.2.2.1 - 1) ∧ s.2.1 (s.2.2.2.1 - 1 + 1) - s.2.1 (s.2.2.2.1 - 1) ≤ s.2.1 (s.2.2.2.1 - 1 + 1) - s.2.1 (s.2.2.2.1 - 1); omega) hr hq hb
theorem okW_add {s : zSh} {i : Int} (hw : okW (sK s 0 0)) (hd : okD i s) (hi : i < 200) (c : Int) (hc : 0 ≤ c ∧ c < 65536) : okW (sK (shAdd s c) 0 0) := by
  obtain ⟨⟨hD, hn, hg, hm, hl⟩, g0, gT, gC, gS⟩ := hw
  have hlc := hd.1
  have hD2 := okD_le (okD_add hd hi c hc) (show i + 1 ≤ 200 by omega)
  have hTz : ∀ k : Int, zup s.2.1 s.2.2.2.1 (s.2.1 s.2.2.2.1 + 1) k = if k = s.2.2.2.1 then s.2.1 s.2.2.2.1 + 1 else s.2.1 k := fun k => rfl
  refine ⟨⟨hD2, hn, hg, hm, hl⟩, ?_, ?_, ?_, gS⟩
  · show zup s.2.1 s.2.2.2.1 (s.2.1 s.2.2.2.1 + 1) 0 = 0
    rw [zup9_ne (by omega)]; exact g0
  · intro k k0 k1
    have k1 : k < s.2.2.2.1 := k1
    have h2 : s.2.1 k ≤ s.2.1 (k + 1) := gT k k0 k1
    show zup s.2.1 s.2.2.2.1 (s.2.1 s.2.2.2.1 + 1) k ≤ zup s.2.1 s.2.2.2.1 (s.2.1 s.2.2.2.1 + 1) (k + 1)
    rw [hTz, hTz, if_neg (by omega)]
    split
    · rename_i h3; rw [← h3]; omega
    · exact h2
  · intro j j0 j1
    have j1 : j < s.2.2.2.2.1 := j1
    have h2 : 0 ≤ s.2.2.1 (j * 5 + 1) ∧ s.2.2.1 (j * 5 + 1) ≤ s.2.1 (s.2.2.1 (j * 5 + 0) + 1) - s.2.1 (s.2.2.1 (j * 5 + 0)) := gC j j0 j1
    have h3 : 0 ≤ s.2.2.1 (j * 5 + 0) ∧ s.2.2.1 (j * 5 + 0) < s.2.2.2.1 := hl j j0 j1
    show 0 ≤ s.2.2.1 (j * 5 + 1) ∧ s.2.2.1 (j * 5 + 1) ≤ zup s.2.1 s.2.2.2.1 (s.2.1 s.2.2.2.1 + 1) (s.2.2.1 (j * 5 + 0) + 1) - zup s.2.1 s.2.2.2.1 (s.2.1 s.2.2.2.1 + 1) (s.2.2.1 (j * 5 + 0))
    rw [hTz, hTz, if_neg (show ¬ s.2.2.1 (j * 5 + 0) = s.2.2.2.1 by omega)]
    split
    · rename_i h4; rw [← h4]; omega
    · exact h2
theorem okW_line {s : zSh} {i : Int} (hw : okW (sK s 0 0)) (hd : okD i s) (hi : i < 200) : okW (sK (shLine s) 0 0) := by
  obtain ⟨⟨hD, hn, hg, hm, hl⟩, g0, gT, gC, gS⟩ := hw
  have hlc := hd.1
  have hD2 := okD_le (okD_line hd hi) (show i + 1 ≤ 200 by omega)
  have hTz : ∀ k : Int, zup s.2.1 (s.2.2.2.1 + 1) (s.2.1 s.2.2.2.1) k = if k = s.2.2.2.1 + 1 then s.2.1 s.2.2.2.1 else s.2.1 k := fun k => rfl
  refine ⟨⟨hD2, hn, hg, hm, ?_⟩, ?_, ?_, ?_, gS⟩
  · intro j j0 j1
    have h3 : 0 ≤ s.2.2.1 (j * 5 + 0) ∧ s.2.2.1 (j * 5 + 0) < s.2.2.2.1 := hl j j0 j1
    show 0 ≤ s.2.2.1 (j * 5 + 0) ∧ s.2.2.1 (j * 5 + 0) < s.2.2.2.1 + 1
    omega
  · show zup s.2.1 (s.2.2.2.1 + 1) (s.2.1 s.2.2.2.1) 0 = 0
    rw [zup9_ne (by omega)]; exact g0
  · intro k k0 k1
    have k1 : k < s.2.2.2.1 + 1 := k1
    show zup s.2.1 (s.2.2.2.1 + 1) (s.2.1 s.2.2.2.1) k ≤ zup s.2.1 (s.2.2.2.1 + 1) (s.2.1 s.2.2.2.1) (k + 1)
    rw [hTz, hTz, if_neg (by omega)]
    split
    · rename_i h3
      rw [show k = s.2.2.2.1 by omega]
      exact Int.le_refl _
    · exact gT k k0 (by show k < s.2.2.2.1; omega)
  · intro j j0 j1
    have j1 : j < s.2.2.2.2.1 := j1
    have h2 : 0 ≤ s.2.2.1 (j * 5 + 1) ∧ s.2.2.1 (j * 5 + 1) ≤ s.2.1 (s.2.2.1 (j * 5 + 0) + 1) - s.2.1 (s.2.2.1 (j * 5 + 0)) := gC j j0 j1
    have h3 : 0 ≤ s.2.2.1 (j * 5 + 0) ∧ s.2.2.1 (j * 5 + 0) < s.2.2.2.1 := hl j j0 j1
    show 0 ≤ s.2.2.1 (j * 5 + 1) ∧ s.2.2.1 (j * 5 + 1) ≤ zup s.2.1 (s.2.2.2.1 + 1) (s.2.1 s.2.2.2.1) (s.2.2.1 (j * 5 + 0) + 1) - zup s.2.1 (s.2.2.2.1 + 1) (s.2.1 s.2.2.2.1) (s.2.2.1 (j * 5 + 0))
    rw [hTz, hTz, if_neg (by omega), if_neg (by omega)]
    exact h2
