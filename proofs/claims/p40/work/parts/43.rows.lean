/-! the law of its own: what stands in the rows -/
def isG (x : Int) : Int := if x = 32 ∨ x = 45 then 0 else 1
/-- the characters of a row that are no blanks and no hyphens -/
def cR (f : Int → Int) : Nat → Int
  | 0 => 0
  | n + 1 => cR f n + isG (f n)
/-- those of a line up to a column that are no blanks -/
def cB (s : zSh) (l : Int) : Nat → Int
  | 0 => 0
  | n + 1 => cB s l n + (if ltr s.1 s.2.1 l n = 32 then 0 else 1)
theorem cR_cg {f g : Int → Int} : ∀ n : Nat, (∀ j : Int, 0 ≤ j → j < n → f j = g j) → cR f n = cR g n
  | 0, h => rfl
  | n + 1, h => by
    rw [cR, cR, cR_cg n (fun j j0 j1 => h j j0 (by omega)), h n (by omega) (by omega)]
theorem cR_Req {r r' : zRw} (h : Req r r') (h0 : 0 ≤ r.1) : cR r.2 r.1.toNat = cR r'.2 r'.1.toNat := by
  rw [← h.1]
  exact cR_cg _ (fun j j0 j1 => h.2 j j0 (by omega))
theorem cR_rA {r : zRw} (h : 0 ≤ r.1) (c : Int) : cR (rA r c).2 (rA r c).1.toNat = cR r.2 r.1.toNat + isG c := by
  have e : (rA r c).1.toNat = r.1.toNat + 1 := by
    show (r.1 + 1).toNat = _
    omega
  rw [e, cR]
  have e2 : ((r.1.toNat : Nat) : Int) = r.1 := by omega
  have h1 : (rA r c).2 ((r.1.toNat : Nat) : Int) = c := by
    rw [e2]
    exact zup_same _ _ _
  rw [h1, cR_cg (f := (rA r c).2) (g := r.2) r.1.toNat (fun j j0 j1 => zup_ne _ _ (by omega))]
theorem cR_rep {c : Int} (hc : isG c = 0) : ∀ (n : Nat) (r : zRw), 0 ≤ r.1 → cR (rL r (List.replicate n c)).2 (rL r (List.replicate n c)).1.toNat = cR r.2 r.1.toNat
  | 0, r, h => rfl
  | n + 1, r, h => by
    show cR (rL (rA r c) (List.replicate n c)).2 (rL (rA r c) (List.replicate n c)).1.toNat = _
    rw [cR_rep hc n (rA r c) (by show 0 ≤ r.1 + 1; omega), cR_rA h, hc]
    omega
theorem cR_plO {s : zSh} {f : Int} {y : zLy} (hf : isG f = 0) (h : 0 ≤ y.2.1.1) : cR (plO s f y).2.1.2 (plO s f y).2.1.1.toNat = cR y.2.1.2 y.2.1.1.toNat ∧ 0 ≤ (plO s f y).2.1.1 := by
  show cR (plB y f).2 (plB y f).1.toNat = _ ∧ 0 ≤ (plB y f).1
  unfold plB
  split
  · refine ⟨cR_rep hf _ _ h, ?_⟩
    rw [rL_len]
    omega
  · exact ⟨rfl, h⟩
theorem cR_plC {s : zSh} {i f : Int} (hf : isG f = 0) : ∀ (m : Nat) (y : zLy), 0 ≤ y.2.1.1 → cR (plC s i f m y).2.1.2 (plC s i f m y).2.1.1.toNat = cR y.2.1.2 y.2.1.1.toNat ∧ 0 ≤ (plC s i f m y).2.1.1
  | 0, y, h => ⟨rfl, h⟩
  | m + 1, y, h => by
    rw [plC]
    split
    · have h1 := cR_plO (s := s) (f := f) hf h
      have h2 := cR_plC (s := s) (i := i) hf m (plO s f y) h1.2
      exact ⟨h2.1.trans h1.1, h2.2⟩
    · exact ⟨rfl, h⟩
theorem plcF_g (s : zSh) (y : zLy) (i : Int) : isG (plcF s y i) = 0 := by
  unfold plcF
  split <;> rfl
theorem cR_layS {s : zSh} {k : Int} {y : zLy} (h : 0 ≤ y.2.1.1) : cR (layS s y k).2.1.2 (layS s y k).2.1.1.toNat = cR y.2.1.2 y.2.1.1.toNat + isG (ltr s.1 s.2.1 y.2.2.1 k) ∧ 0 ≤ (layS s y k).2.1.1 := by
  have h1 : cR (plc s y k).2.1.2 (plc s y k).2.1.1.toNat = cR y.2.1.2 y.2.1.1.toNat ∧ 0 ≤ (plc s y k).2.1.1 := cR_plC (s := s) (i := k) (plcF_g s y k) s.2.2.2.2.1.toNat y h
  refine ⟨?_, ?_⟩
  · show cR (rA (plc s y k).2.1 (ltr s.1 s.2.1 y.2.2.1 k)).2 (rA (plc s y k).2.1 (ltr s.1 s.2.1 y.2.2.1 k)).1.toNat = _
    rw [cR_rA h1.2]
    exact congrArg (· + isG (ltr s.1 s.2.1 y.2.2.1 k)) h1.1
  · show 0 ≤ (plc s y k).2.1.1 + 1
    have h2 : 0 ≤ (plc s y k).2.1.1 := h1.2
    omega
/-- no hyphen in the lines -/
def noH (s : zSh) : Prop := ∀ l k : Int, 0 ≤ l → l < s.2.2.2.1 → 0 ≤ k → k < s.2.1 (l + 1) - s.2.1 l → ¬ ltr s.1 s.2.1 l k = 45
theorem cR_layI {s : zSh} {l : Int} (hh : noH s) (hl : 0 ≤ l ∧ l < s.2.2.2.1) : ∀ (m : Nat) (k : Nat) (y : zLy), 0 ≤ y.2.1.1 → y.2.2.1 = l → ((k + m : Nat) : Int) ≤ s.2.1 (l + 1) - s.2.1 l → cR (layI s m k y).2.1.2 (layI s m k y).2.1.1.toNat + cB s l k = cR y.2.1.2 y.2.1.1.toNat + cB s l (k + m) ∧ 0 ≤ (layI s m k y).2.1.1
  | 0, k, y, h, hy, hn => ⟨rfl, h⟩
  | m + 1, k, y, h, hy, hn => by
    have h1 := cR_layS (s := s) (k := k) h
    have h2 := cR_layI hh hl m (k + 1) (layS s y k) h1.2 ((layS_ln s y k).trans hy) (by omega)
    have h3 := hh l k hl.1 hl.2 (by omega) (by omega)
    rw [layI, show ((k : Int) + 1) = ((k + 1 : Nat) : Int) by omega, show k + (m + 1) = k + 1 + m by omega]
    refine ⟨?_, h2.2⟩
    have h4 := h2.1
    rw [h1.1, hy] at h4
    have h5 : cB s l (k + 1) = cB s l k + (if ltr s.1 s.2.1 l k = 32 then 0 else 1) := rfl
    have h6 : isG (ltr s.1 s.2.1 l k) = (if ltr s.1 s.2.1 l k = 32 then 0 else 1) := by
      unfold isG
      by_cases c : ltr s.1 s.2.1 l k = 32
      · rw [if_pos c, if_pos (Or.inl c)]
      · rw [if_neg c, if_neg (by omega)]
    rw [h6] at h4
    omega
theorem cR_layE {s : zSh} {l : Int} {a b : Int} (hh : noH s) (hl : 0 ≤ l ∧ l < s.2.2.2.1) (ha : 0 ≤ a) (hab : a ≤ b) (hb : b ≤ s.2.1 (l + 1) - s.2.1 l) : cR (layE s l a b (yB s l a)).2.1.2 (layE s l a b (yB s l a)).2.1.1.toNat + cB s l a.toNat = cB s l b.toNat := by
  have h1 := cR_layI hh hl (b - a).toNat a.toNat (yB s l a) (Int.le_refl _) rfl (by omega)
  rw [show ((a.toNat : Nat) : Int) = a by omega, show a.toNat + (b - a).toNat = b.toNat by omega] at h1
  have h0 : cR (yB s l a).2.1.2 (yB s l a).2.1.1.toNat = 0 := rfl
  rw [h0] at h1
  unfold layE
  split
  · have h2 := cR_plC (s := s) (i := b) (plcF_g s (layI s (b - a).toNat a (yB s l a)) b) s.2.2.2.2.1.toNat (layI s (b - a).toNat a (yB s l a)) h1.2
    show cR (plC s b (plcF s (layI s (b - a).toNat a (yB s l a)) b) s.2.2.2.2.1.toNat (layI s (b - a).toNat a (yB s l a))).2.1.2 (plC s b (plcF s (layI s (b - a).toNat a (yB s l a)) b) s.2.2.2.2.1.toNat (layI s (b - a).toNat a (yB s l a))).2.1.1.toNat + _ = _
    rw [h2.1]
    omega
  · omega
/-! the chord row ends with a name -/
def endN (r : zRw) : Prop := 0 ≤ r.1 ∧ (0 < r.1 → ¬ r.2 (r.1 - 1) = 32)
def lsL (d : Int) : List Int → Int
  | [] => d
  | x :: l => lsL x l
theorem lsL_app : ∀ (l m : List Int) (d : Int), lsL d (l ++ m) = lsL (lsL d l) m
  | [], m, d => rfl
  | x :: l, m, d => lsL_app l m x
theorem lsL_ne {l : List Int} (h : ¬ l = []) (d e : Int) : lsL d l = lsL e l := by
  cases l with
  | nil => exact absurd rfl h
  | cons x l => rfl
theorem noteL_l : ∀ k : Nat, k < 24 → ¬ lsL 32 (noteL ((k : Int) - 9)) = 32 := by decide
theorem byte_l : ∀ q : Nat, q < 10 → zBytes.getD q [] = [] ∨ ¬ lsL 32 (zBytes.getD q []) = 32 := by decide
theorem note_last {p : Int} (h : -9 ≤ p ∧ p ≤ 14) (d : Int) : ¬ lsL d (noteL p) = 32 := by
  have n1 := noteL_l (p + 9).toNat (by omega)
  rw [show (((p + 9).toNat : Nat) : Int) - 9 = p by omega] at n1
  exact n1
theorem name_last {r q b : Int} (hr : -9 ≤ r ∧ r ≤ 14) (hq : 0 ≤ q ∧ q < 10) (hb : b = 100 ∨ (-9 ≤ b ∧ b ≤ 14)) (d : Int) : ¬ lsL d (nameL r q b) = 32 := by
  unfold nameL
  rw [lsL_app, lsL_app]
  by_cases c : b = 100
  · rw [if_pos c]
    show ¬ lsL (lsL d (noteL r)) (zBytes.getD q.toNat []) = 32
    rcases byte_l q.toNat (by omega) with h | h
    · rw [h]
      exact note_last hr d
    · have h2 : ¬ zBytes.getD q.toNat [] = [] := by
        intro h3
        rw [h3] at h
        exact h rfl
      rw [lsL_ne h2 _ 32]
      exact h
  · rw [if_neg c]
    exact note_last (by omega) 47
theorem rL_last : ∀ (l : List Int) (r : zRw), (rL r l).2 ((rL r l).1 - 1) = lsL (r.2 (r.1 - 1)) l
  | [], r => rfl
  | c :: l, r => by
    have h1 := rL_last l (rA r c)
    have h2 : (rA r c).2 ((rA r c).1 - 1) = c := by
      show zup r.2 r.1 c (r.1 + 1 - 1) = c
      rw [show r.1 + 1 - 1 = r.1 by omega]
      exact zup_same _ _ _
    rw [h2] at h1
    exact h1
theorem endN_plO {s : zSh} {f : Int} {y : zLy} (hs : okN s) (h0 : 0 ≤ y.2.2.2.2.2.1 ∧ y.2.2.2.2.2.1 < s.2.2.2.2.1) (h : endN y.1) : endN (plO s f y).1 := by
  obtain ⟨n1, n2, n3⟩ := hs y.2.2.2.2.2.1 h0.1 h0.2
  have hl := rL_last (nameL (s.2.2.1 (y.2.2.2.2.2.1 * 5 + 2)) (s.2.2.1 (y.2.2.2.2.2.1 * 5 + 3)) (s.2.2.1 (y.2.2.2.2.2.1 * 5 + 4))) (rL y.1 (List.replicate ((plB y f).1 - y.1.1).toNat 32))
  refine ⟨?_, fun _ => ?_⟩
  · show 0 ≤ (rL (rL y.1 _) _).1
    rw [rL_len, rL_len]
    have := h.1
    omega
  · show ¬ (rL (rL y.1 (List.replicate ((plB y f).1 - y.1.1).toNat 32)) (nameL (s.2.2.1 (y.2.2.2.2.2.1 * 5 + 2)) (s.2.2.1 (y.2.2.2.2.2.1 * 5 + 3)) (s.2.2.1 (y.2.2.2.2.2.1 * 5 + 4)))).2 ((rL (rL y.1 (List.replicate ((plB y f).1 - y.1.1).toNat 32)) (nameL (s.2.2.1 (y.2.2.2.2.2.1 * 5 + 2)) (s.2.2.1 (y.2.2.2.2.2.1 * 5 + 3)) (s.2.2.1 (y.2.2.2.2.2.1 * 5 + 4)))).1 - 1) = 32
    rw [hl]
    exact name_last n1 n2 n3 _
theorem endN_plC {s : zSh} {i f : Int} (hs : okN s) : ∀ (m : Nat) (y : zLy), 0 ≤ y.2.2.2.2.2.1 → endN y.1 → endN (plC s i f m y).1 ∧ 0 ≤ (plC s i f m y).2.2.2.2.2.1
  | 0, y, h0, h => ⟨h, h0⟩
  | m + 1, y, h0, h => by
    rw [plC]
    split
    · rename_i c
      exact endN_plC hs m (plO s f y) (by show 0 ≤ y.2.2.2.2.2.1 + 1; omega) (endN_plO hs ⟨h0, c.1⟩ h)
    · exact ⟨h, h0⟩
theorem endN_layI {s : zSh} (hs : okN s) : ∀ (m : Nat) (k : Int) (y : zLy), 0 ≤ y.2.2.2.2.2.1 → endN y.1 → endN (layI s m k y).1 ∧ 0 ≤ (layI s m k y).2.2.2.2.2.1
  | 0, k, y, h0, h => ⟨h, h0⟩
  | m + 1, k, y, h0, h => by
    have h1 := endN_plC (s := s) (i := k) (f := plcF s y k) hs s.2.2.2.2.1.toNat y h0 h
    rw [layI]
    exact endN_layI hs m (k + 1) (layS s y k) h1.2 h1.1
theorem endN_layE {s : zSh} (hs : okN s) (hc : 0 ≤ s.2.2.2.2.1) (l a b : Int) : endN (layE s l a b (yB s l a)).1 := by
  have hu := cUT_le s.2.2.1 l (a - 1) s.2.2.2.2.1.toNat 0
  have h1 := endN_layI hs (b - a).toNat a (yB s l a) (by show 0 ≤ cUT s.2.2.1 l (a - 1) s.2.2.2.2.1.toNat 0; omega) ⟨Int.le_refl _, fun h => absurd h (show ¬ (0 : Int) < 0 by decide)⟩
  unfold layE
  split
  · exact (endN_plC hs s.2.2.2.2.1.toNat _ h1.2 h1.1).1
  · exact h1.1
/-! the pairs follow each other to the line's end -/
theorem itR_sn (s : zSh) (l w : Int) : ∀ (m : Nat) (a : Int), itR s l w (m + 1) a = edF s l w (itR s l w m a)
  | 0, a => rfl
  | m + 1, a => by
    rw [itR, itR_sn s l w m]
    rfl
theorem prR_it {s : zSh} {l w : Int} : ∀ (m : Nat) (k n : Int), (0 ≤ k ∧ k ≤ s.2.1 (l + 1) - s.2.1 l) → s.2.1 (l + 1) - s.2.1 l - k < m → ∃ j : Nat, prR s l w m k n = n + j ∧ itR s l w j k = s.2.1 (l + 1) - s.2.1 l ∧ (j : Int) ≤ s.2.1 (l + 1) - s.2.1 l - k
  | 0, k, n, hk, hm => absurd hm (by omega)
  | m + 1, k, n, hk, hm => by
    rw [prR]
    split
    · rename_i h
      have h1 := edF_b (w := w) hk
      obtain ⟨j, h2, h3, h4⟩ := prR_it (s := s) (l := l) (w := w) m (edF s l w k) (n + 1) (by omega) (by omega)
      refine ⟨j + 1, by rw [h2]; omega, h3, by omega⟩
    · exact ⟨0, by omega, by show k = _; omega, by omega⟩
theorem prF_it {s : zSh} {l w : Int} (h : 0 ≤ s.2.1 (l + 1) - s.2.1 l ∧ s.2.1 (l + 1) - s.2.1 l ≤ 200) : (1 ≤ prF s l w ∧ prF s l w ≤ s.2.1 (l + 1) - s.2.1 l + 1) ∧ itR s l w (prF s l w).toNat 0 = s.2.1 (l + 1) - s.2.1 l := by
  unfold prF
  by_cases c : s.2.1 (l + 1) - s.2.1 l = 0
  · have h1 := edF_b (s := s) (l := l) (w := w) (a := 0) (by omega)
    rw [if_pos c, prR_end (by omega)]
    refine ⟨by omega, ?_⟩
    show edF s l w 0 = _
    omega
  · rw [if_neg c]
    obtain ⟨j, h1, h2, h3⟩ := prR_it (s := s) (l := l) (w := w) 201 0 0 (by omega) (by omega)
    have hj : ¬ j = 0 := by
      intro h9
      rw [h9] at h2
      exact c h2.symm
    rw [h1]
    refine ⟨by omega, ?_⟩
    rw [show ((0 : Int) + (j : Int)).toNat = j by omega]
    exact h2
