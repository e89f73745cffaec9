/-! the law of its own: the text that it types, and how it is read -/
def leC (p : Int) : Int := if p = -1 then 70 else if p = 0 then 67 else if p = 1 then 71 else if p = 2 then 68 else if p = 3 then 65 else if p = 4 then 69 else 66
def plN (p : Int) : Int := if p < -1 then p + 7 else if 5 < p then p - 7 else p
def ntT (p : Int) : List Int := leC (plN p) :: (if p < -1 then [98] else if 5 < p then [35] else [])
def chT (r q b : Int) : List Int := ntT r ++ (zBytes.getD q.toNat [] ++ if b = 100 then [] else 47 :: ntT b)
/-- the list stands there -/
def At (g : Int → Int) (p : Int) : List Int → Prop
  | [] => True
  | c :: l => g p = c ∧ At g (p + 1) l
theorem At_app {g : Int → Int} : ∀ (l m : List Int) (p : Int), At g p (l ++ m) → At g p l ∧ At g (p + l.length) m
  | [], m, p, h => ⟨trivial, by rw [List.length_nil, show p + ((0 : Nat) : Int) = p by omega]; exact h⟩
  | c :: l, m, p, h => by
    have h1 := At_app l m (p + 1) h.2
    refine ⟨⟨h.1, h1.1⟩, ?_⟩
    rw [List.length_cons, show p + ((l.length + 1 : Nat) : Int) = p + 1 + l.length by omega]
    exact h1.2
theorem At_of {g : Int → Int} : ∀ (l : List Int) (p : Int), (∀ k : Nat, k < l.length → g (p + k) = l.getD k 0) → At g p l
  | [], p, h => trivial
  | c :: l, p, h => by
    refine ⟨?_, At_of l (p + 1) (fun k hk => ?_)⟩
    · have h1 := h 0 (by rw [List.length_cons]; omega)
      rw [show p + ((0 : Nat) : Int) = p by omega] at h1
      exact h1
    · have h1 := h (k + 1) (by rw [List.length_cons]; omega)
      rw [show p + ((k + 1 : Nat) : Int) = p + 1 + k by omega] at h1
      exact h1
theorem At_rL {t0 : zRw} (h0 : t0.1 = 0) (l : List Int) : At (gT (rL t0 l)) 0 l := by
  refine At_of l 0 (fun k hk => ?_)
  have h1 := rL_hi t0 l k hk
  have h2 := rL_len t0 l
  unfold gT
  rw [if_pos (by omega), show (0 : Int) + k = t0.1 + k by omega]
  exact h1
theorem nat9_l : ∀ k : Nat, k < 7 → nat9 (leC ((k : Int) - 1)) = (k : Int) - 1 := by decide
theorem nat9_le {p : Int} (h : -1 ≤ p ∧ p ≤ 5) : nat9 (leC p) = p := by
  have h1 := nat9_l (p + 1).toNat (by omega)
  rwa [show (((p + 1).toNat : Nat) : Int) - 1 = p by omega] at h1
theorem leC_b (p : Int) : 65 ≤ leC p ∧ leC p ≤ 71 := by
  unfold leC
  (repeat' split) <;> omega
theorem ntR_T {g : Int → Int} {p x : Int} (hx : -8 ≤ x ∧ x ≤ 12) (h : At g p (ntT x)) (he : ¬ g (p + (ntT x).length) = 35 ∧ ¬ g (p + (ntT x).length) = 98) : ntR g p = (x, p + (ntT x).length) := by
  have hp : -1 ≤ plN x ∧ plN x ≤ 5 := by unfold plN; (repeat' split) <;> omega
  have h9 := nat9_le hp
  unfold ntT at h he ⊢
  have h1 : nat9 (g p) = plN x := by rw [h.1, h9]
  unfold ntR
  rw [h1, if_neg (show ¬ plN x = 100 by omega)]
  have h2 := h.2
  by_cases c1 : x < -1
  · rw [if_pos c1] at h2 he ⊢
    have e : plN x = x + 7 := if_pos c1
    rw [h2.1, if_neg (show ¬ (98 : Int) = 35 by decide), if_pos rfl, e, show x + 7 - 7 = x by omega]
    exact congrArg (fun z => (x, z)) (show p + 1 + 1 = p + ((2 : Nat) : Int) by omega)
  · rw [if_neg c1] at h2 he ⊢
    by_cases c2 : 5 < x
    · rw [if_pos c2] at h2 he ⊢
      have e : plN x = x - 7 := by unfold plN; rw [if_neg c1, if_pos c2]
      rw [h2.1, if_pos rfl, e, show x - 7 + 7 = x by omega]
      exact congrArg (fun z => (x, z)) (show p + 1 + 1 = p + ((2 : Nat) : Int) by omega)
    · rw [if_neg c2] at h2 he ⊢
      have e : plN x = x := by unfold plN; rw [if_neg c1, if_neg c2]
      have he1 : ¬ g (p + 1) = 35 ∧ ¬ g (p + 1) = 98 := he
      rw [if_neg he1.1, if_neg he1.2, e]
      rfl
theorem byte_c : ∀ q : Nat, q < 10 → ∀ c ∈ zBytes.getD q [], (32 ≤ c ∧ c ≤ 126) ∧ ¬ c = 35 ∧ ¬ c = 98 ∧ ¬ c = 47 ∧ ¬ c = 93 ∧ ¬ c = -1 := by decide +kernel
theorem shR_cg {g g' : Int → Int} {p N : Int} (hg : ∀ j : Int, 0 ≤ j → j ≤ N → g (p + j) = g' (0 + j)) : ∀ (l : List Int) (k : Int), (∀ c ∈ l, ¬ c = g' (0 + N)) → 0 ≤ k → k ≤ N → shR g p l k = shR g' 0 l k
  | [], k, hl, h0, hk => rfl
  | c :: l, k, hl, h0, hk => by
    rw [shR, shR, hg k h0 hk]
    by_cases e : g' (0 + k) = c
    · rw [if_pos e, if_pos e]
      refine shR_cg hg l (k + 1) (fun x hx => hl x (List.mem_cons_of_mem _ hx)) (by omega) ?_
      by_cases hkN : k = N
      · rw [hkN] at e
        exact absurd e.symm (hl c List.mem_cons_self)
      · omega
    · rw [if_neg e, if_neg e]
theorem quR_cg {g g' : Int → Int} {p N : Int} (hN : 0 ≤ N) (hg : ∀ j : Int, 0 ≤ j → j ≤ N → g (p + j) = g' (0 + j)) (hc : ∀ q : Nat, q < 10 → ∀ c ∈ zBytes.getD q [], ¬ c = g' (0 + N)) : ∀ (m : Nat) (i lo fo qu : Int), 0 ≤ i → i + m = 10 → quR g p m i lo fo qu = quR g' 0 m i lo fo qu
  | 0, i, lo, fo, qu, h0, h1 => rfl
  | m + 1, i, lo, fo, qu, h0, h1 => by
    have e := shR_cg hg (zBytes.getD i.toNat []) 0 (hc i.toNat (by omega)) (Int.le_refl _) hN
    simp only [quR]
    rw [e, quR_cg hN hg hc m (i + 1) _ _ _ (by omega) (by omega), quR_cg hN hg hc m (i + 1) _ _ _ (by omega) (by omega), quR_cg hN hg hc m (i + 1) _ _ _ (by omega) (by omega), quR_cg hN hg hc m (i + 1) _ _ _ (by omega) (by omega)]
def gQ (q : Nat) (f : Int) : Int → Int := fun j => (zBytes.getD q [] ++ [f]).getD j.toNat 0
theorem quF_all : (List.range 10).all (fun q => [47, 93, -1].all fun f => (List.range 10).all fun qu => decide (quF (gQ q f) 0 qu = (((zBytes.getD q []).length : Int), 1, (q : Int)))) = true := by decide +kernel
theorem At_get {g : Int → Int} : ∀ (l : List Int) (p : Int), At g p l → ∀ k : Nat, k < l.length → g (p + k) = l.getD k 0
  | [], p, h, k, hk => absurd hk (by rw [List.length_nil]; omega)
  | c :: l, p, h, 0, hk => by
    rw [show p + ((0 : Nat) : Int) = p by omega]
    exact h.1
  | c :: l, p, h, k + 1, hk => by
    rw [show p + ((k + 1 : Nat) : Int) = p + 1 + k by omega]
    exact At_get l (p + 1) h.2 k (by rw [List.length_cons] at hk; omega)
theorem getD_left {l m : List Int} {i : Nat} (h : i < l.length) : (l ++ m).getD i 0 = l.getD i 0 := by rw [List.getD_eq_getElem?_getD, List.getD_eq_getElem?_getD, List.getElem?_append_left h]
theorem quF_T {g : Int → Int} {p qu q f : Int} (hq : 0 ≤ q ∧ q < 10) (hqu : 0 ≤ qu ∧ qu < 10) (h : At g p (zBytes.getD q.toNat [])) (hf : g (p + (zBytes.getD q.toNat []).length) = f) (hf3 : f = 47 ∨ f = 93 ∨ f = -1) : quF g p qu = (((zBytes.getD q.toNat []).length : Int), 1, q) := by
  have h1 := List.all_eq_true.mp quF_all q.toNat (List.mem_range.mpr (by omega))
  have h2 := List.all_eq_true.mp h1 f (by simp only [List.mem_cons, List.not_mem_nil, or_false]; exact hf3)
  have h3 := of_decide_eq_true (List.all_eq_true.mp h2 qu.toNat (List.mem_range.mpr (by omega)))
  rw [show ((q.toNat : Nat) : Int) = q by omega, show ((qu.toNat : Nat) : Int) = qu by omega] at h3
  rw [← h3]
  have hz : gQ q.toNat f (0 + ((zBytes.getD q.toNat []).length : Int)) = f := by
    unfold gQ
    rw [show ((0 : Int) + ((zBytes.getD q.toNat []).length : Int)).toNat = (zBytes.getD q.toNat []).length by omega, List.getD_eq_getElem?_getD, List.getElem?_append_right (Nat.le_refl _), Nat.sub_self]
    rfl
  refine quR_cg (N := ((zBytes.getD q.toNat []).length : Int)) (by omega) (fun j j0 j1 => ?_) (fun q9 hq9 c hc => ?_) 10 0 (-1) 0 qu (by decide) (by decide)
  · by_cases hj : j = ((zBytes.getD q.toNat []).length : Int)
    · rw [hj, hf, hz]
    · have h4 := At_get _ p h j.toNat (by omega)
      rw [show p + ((j.toNat : Nat) : Int) = p + j by omega] at h4
      rw [h4]
      unfold gQ
      rw [show ((0 : Int) + j).toNat = j.toNat by omega, getD_left (by omega)]
  · have h5 := byte_c q9 hq9 c hc
    rw [hz]
    intro h6
    rw [← h6] at hf3
    omega
theorem chR_T {g : Int → Int} {p qu r q b : Int} (hr : -8 ≤ r ∧ r ≤ 12) (hq : 0 ≤ q ∧ q < 10) (hb : b = 100 ∨ (-8 ≤ b ∧ b ≤ 12)) (hqu : 0 ≤ qu ∧ qu < 10) (h : At g p (chT r q b)) (he : g (p + (chT r q b).length) = 93 ∨ g (p + (chT r q b).length) = -1) : chR g p qu = (p + (chT r q b).length, r, q, b, 1) := by
  obtain ⟨h1, h2⟩ := At_app _ _ _ h
  obtain ⟨h3, h4⟩ := At_app _ _ _ h2
  have hB := byte_c q.toNat (by omega)
  have hL : ((chT r q b).length : Int) = (ntT r).length + ((zBytes.getD q.toNat []).length + (if b = 100 then [] else 47 :: ntT b : List Int).length) := by
    unfold chT
    rw [List.length_append, List.length_append]
    omega
  have hf : ∃ f, g (p + (ntT r).length + (zBytes.getD q.toNat []).length) = f ∧ (f = 47 ∨ f = 93 ∨ f = -1) := by
    refine ⟨_, rfl, ?_⟩
    by_cases c : b = 100
    · rw [if_pos c, List.length_nil] at hL
      rw [show p + (ntT r).length + (zBytes.getD q.toNat []).length = p + (chT r q b).length by omega]
      omega
    · rw [if_neg c] at h4
      exact Or.inl h4.1
  obtain ⟨f, hf1, hf2⟩ := hf
  have hn : ¬ g (p + (ntT r).length) = 35 ∧ ¬ g (p + (ntT r).length) = 98 := by
    rcases hz : zBytes.getD q.toNat [] with _ | ⟨x, l⟩
    · rw [hz, List.length_nil, show p + (ntT r).length + ((0 : Nat) : Int) = p + (ntT r).length by omega] at hf1
      rw [hf1]
      omega
    · rw [hz] at h3 hB
      rw [h3.1]
      have := hB x List.mem_cons_self
      exact ⟨this.2.1, this.2.2.1⟩
  have e1 := ntR_T hr h1 hn
  have e2 := quF_T hq hqu h3 hf1 hf2
  unfold chR
  rw [e1]
  dsimp only
  rw [e2]
  dsimp only
  rw [if_neg (show ¬ r = 100 by omega), if_neg (show ¬ (1 : Int) = 0 by decide), hf1]
  by_cases c : b = 100
  · rw [if_pos c, List.length_nil] at hL
    have e0 : p + (ntT r).length + (zBytes.getD q.toNat []).length = p + (chT r q b).length := by omega
    rw [e0] at hf1
    rw [if_neg (show ¬ f = 47 by omega), e0, c]
  · rw [if_neg c] at h4 hL
    have h47 : f = 47 := by rw [← hf1]; exact h4.1
    rw [if_pos h47]
    have hlen : ((47 :: ntT b : List Int).length : Int) = (ntT b).length + 1 := by rw [List.length_cons]; omega
    have e0 : p + (ntT r).length + (zBytes.getD q.toNat []).length + 1 + (ntT b).length = p + (chT r q b).length := by omega
    have e3 := ntR_T (x := b) (by omega) h4.2 (by rw [e0]; omega)
    rw [e3]
    dsimp only
    rw [if_neg c, e0]
/-! texts that are read -/
def PL (s : zSh) : Prop := ∀ j : Int, 0 ≤ j → j < s.2.1 s.2.2.2.1 → ¬ s.1 j = 45
def Wf (tl : List Int) (n : Int) : Prop := 0 ≤ n ∧ ∀ (g : Int → Int) (N p : Int) (m : Nat) (s : zSh) (k : zKd), At g p tl → p + tl.length ≤ N → s.2.2.2.2.1 + n ≤ 40 → (0 ≤ k.2.2.1 ∧ k.2.2.1 < 10) → N - p < m → PL s → ∃ (m' : Nat) (s' : zSh) (k' : zKd), rdS g N m p s k = rdS g N m' (p + tl.length) s' k' ∧ s'.2.2.2.2.1 = s.2.2.2.2.1 + n ∧ N - (p + tl.length) < m' ∧ (0 ≤ k'.2.2.1 ∧ k'.2.2.1 < 10) ∧ PL s'
theorem Wf_nil : Wf [] 0 := by
  refine ⟨Int.le_refl _, fun g N p m s k h1 h2 h3 h4 h5 h6 => ⟨m, s, k, ?_, by omega, ?_, h4, h6⟩⟩
  · rw [List.length_nil, show p + ((0 : Nat) : Int) = p by omega]
  · rw [List.length_nil]
    omega
theorem Wf_app {a b : List Int} {n i : Int} (ha : Wf a n) (hb : Wf b i) : Wf (a ++ b) (n + i) := by
  refine ⟨by have := ha.1; have := hb.1; omega, fun g N p m s k h1 h2 h3 h4 h5 h6 => ?_⟩
  obtain ⟨a1, a2⟩ := At_app _ _ _ h1
  rw [List.length_append] at h2 ⊢
  have hi := hb.1
  obtain ⟨m1, s1, k1, e1, c1, d1, q1, p1⟩ := ha.2 g N p m s k a1 (by omega) (by omega) h4 h5 h6
  obtain ⟨m2, s2, k2, e2, c2, d2, q2, p2⟩ := hb.2 g N (p + a.length) m1 s1 k1 a2 (by omega) (by omega) q1 d1 p1
  have e : p + ((a.length + b.length : Nat) : Int) = p + a.length + b.length := by omega
  rw [e]
  exact ⟨m2, s2, k2, e1.trans e2, by omega, d2, q2, p2⟩
theorem PL_add {s : zSh} {c : Int} (h : PL s) (hc : ¬ c = 45) : PL (shAdd s c) := by
  intro j j0 j1
  have j2 : j < zup s.2.1 s.2.2.2.1 (s.2.1 s.2.2.2.1 + 1) s.2.2.2.1 := j1
  rw [zup_same] at j2
  show ¬ zup s.1 (s.2.1 s.2.2.2.1) c j = 45
  unfold zup
  split
  · exact hc
  · exact h j j0 (by omega)
theorem PL_line {s : zSh} (h : PL s) : PL (shLine s) := by
  intro j j0 j1
  have j2 : j < zup s.2.1 (s.2.2.2.1 + 1) (s.2.1 s.2.2.2.1) (s.2.2.2.1 + 1) := j1
  rw [zup_same] at j2
  exact h j j0 j2
theorem Wf_c {c : Int} (h1 : ¬ c = 91) (h2 : ¬ c = 93) (h3 : ¬ c = 45) : Wf [c] 0 := by
  refine ⟨Int.le_refl _, fun g N p m s k a1 a2 a3 a4 a5 a6 => ?_⟩
  have hg : g p = c := a1.1
  have e9 : p + (([c] : List Int).length : Int) = p + 1 := rfl
  rw [e9] at a2 ⊢
  cases m with
  | zero => omega
  | succ m =>
    by_cases c47 : c = 47
    · refine ⟨m, shLine s, k, ?_, by show s.2.2.2.2.1 = _; omega, by omega, a4, PL_line a6⟩
      rw [rdS, if_neg (by omega), hg, if_neg h2, if_neg h1, if_pos c47]
    · refine ⟨m, shAdd s c, k, ?_, by show s.2.2.2.2.1 = _; omega, by omega, a4, PL_add a6 h3⟩
      rw [rdS, if_neg (by omega), hg, if_neg h2, if_neg h1, if_neg c47]
theorem Wf_ch {r q b : Int} (hr : -8 ≤ r ∧ r ≤ 12) (hq : 0 ≤ q ∧ q < 10) (hb : b = 100 ∨ (-8 ≤ b ∧ b ≤ 12)) : Wf (91 :: (chT r q b ++ [93])) 1 := by
  refine ⟨by decide, fun g N p m s k a1 a2 a3 a4 a5 a6 => ?_⟩
  have hg : g p = 91 := a1.1
  obtain ⟨b1, b2⟩ := At_app _ _ _ a1.2
  have e9 : p + ((91 :: (chT r q b ++ [93]) : List Int).length : Int) = p + 1 + (chT r q b).length + 1 := by
    rw [List.length_cons, List.length_append, List.length_cons, List.length_nil]
    omega
  rw [e9] at a2 ⊢
  cases m with
  | zero => omega
  | succ m =>
    have hc := chR_T hr hq hb a4 b1 (Or.inl b2.1)
    refine ⟨m, shApp s r q b, (p + 1 + (chT r q b).length, r, q, b, 1), ?_, rfl, by omega, hq, a6⟩
    rw [rdS, if_neg (by omega), hg, if_neg (by decide), if_pos rfl, if_neg (by omega), hc]
    dsimp only
    rw [if_neg (by decide), b2.1, if_pos rfl]
theorem okT_rA {t : zRw} (h : okT t) (h1 : t.1 < 200) {c : Int} (hc : 32 ≤ c ∧ c ≤ 126) : okT (rA t c) := by
  refine ⟨by show 0 ≤ t.1 + 1; have := h.1; omega, by show t.1 + 1 ≤ 200; omega, fun j j0 j1 => ?_⟩
  have j2 : j < t.1 + 1 := j1
  show 32 ≤ zup t.2 t.1 c j ∧ zup t.2 t.1 c j ≤ 126
  unfold zup
  split
  · exact hc
  · exact h.2.2 j j0 (by omega)
theorem okT_rL : ∀ (l : List Int) {t : zRw}, okT t → t.1 + l.length ≤ 200 → (∀ c ∈ l, 32 ≤ c ∧ c ≤ 126) → okT (rL t l)
  | [], t, h, h1, hc => h
  | c :: l, t, h, h1, hc => by
    rw [List.length_cons] at h1
    exact okT_rL l (okT_rA h (by omega) (hc c List.mem_cons_self)) (by show t.1 + 1 + (l.length : Int) ≤ 200; omega) (fun x hx => hc x (List.mem_cons_of_mem _ hx))
theorem ntT_c (p : Int) : ∀ c ∈ ntT p, 32 ≤ c ∧ c ≤ 126 := by
  intro c hc
  have h1 := leC_b (plN p)
  unfold ntT at hc
  rcases List.mem_cons.mp hc with h | h
  · rw [h]; omega
  · (repeat' split at h) <;> simp only [List.mem_cons, List.not_mem_nil, or_false] at h <;> omega
theorem ntT_n (p : Int) : (ntT p).length ≤ 2 := by
  unfold ntT
  rw [List.length_cons]
  (repeat' split) <;> decide
theorem chT_c {q : Int} (r b : Int) (hq : 0 ≤ q ∧ q < 10) : ∀ c ∈ chT r q b, 32 ≤ c ∧ c ≤ 126 := by
  intro c hc
  unfold chT at hc
  rcases List.mem_append.mp hc with h | h
  · exact ntT_c r c h
  · rcases List.mem_append.mp h with h | h
    · exact (byte_c q.toNat (by omega) c h).1
    · split at h
      · exact absurd h (by simp)
      · rcases List.mem_cons.mp h with h | h
        · omega
        · exact ntT_c b c h
theorem chT_n {q : Int} (r b : Int) (hq : 0 ≤ q ∧ q < 10) : (chT r q b).length ≤ 9 := by
  have h1 := ntT_n r
  have h2 := zby_n hq
  have h3 := ntT_n b
  unfold chT
  rw [List.length_append, List.length_append]
  split
  · rw [List.length_nil]; omega
  · rw [List.length_cons]; omega
/-- what has been typed so far, with n chords -/
def TX (t0 t : zRw) (n : Int) : Prop := okT t ∧ ∃ tl : List Int, t = rL t0 tl ∧ Wf tl n
theorem TX_c {t0 t : zRw} {n c : Int} (h : TX t0 t n) (h9 : t.1 < 200) (hc : 32 ≤ c ∧ c ≤ 126) (h1 : ¬ c = 91) (h2 : ¬ c = 93) (h3 : ¬ c = 45) : TX t0 (rA t c) n := by
  obtain ⟨h4, tl, rfl, hw⟩ := h
  refine ⟨okT_rA h4 h9 hc, tl ++ [c], (rL_app t0 tl [c]).symm, ?_⟩
  have := Wf_app hw (Wf_c h1 h2 h3)
  rwa [show n + 0 = n by omega] at this
theorem TX_ch {t0 t : zRw} {n r q b : Int} (h : TX t0 t n) (h9 : t.1 + 11 ≤ 200) (hr : -8 ≤ r ∧ r ≤ 12) (hq : 0 ≤ q ∧ q < 10) (hb : b = 100 ∨ (-8 ≤ b ∧ b ≤ 12)) : TX t0 (rA (rL (rA t 91) (chT r q b)) 93) (n + 1) := by
  obtain ⟨h4, tl, rfl, hw⟩ := h
  have hn := chT_n r b hq
  have e : rA (rL (rA (rL t0 tl) 91) (chT r q b)) 93 = rL (rL t0 tl) (91 :: (chT r q b ++ [93])) := by
    show _ = rL (rA (rL t0 tl) 91) (chT r q b ++ [93])
    rw [rL_app]
    rfl
  refine ⟨?_, tl ++ (91 :: (chT r q b ++ [93])), ?_, Wf_app hw (Wf_ch hr hq hb)⟩
  · rw [e]
    refine okT_rL _ h4 ?_ ?_
    · rw [List.length_cons, List.length_append, List.length_cons, List.length_nil]
      omega
    · intro c hc
      rcases List.mem_cons.mp hc with h | h
      · omega
      · rcases List.mem_append.mp h with h | h
        · exact chT_c r b hq c h
        · have := List.mem_singleton.mp h
          omega
  · rw [e, rL_app]
theorem TX_read {t0 t : zRw} {n : Int} (h : TX t0 t n) (h0 : t0.1 = 0) (hn : n ≤ 40) {D : zSh} {k : zKd} (hk : 0 ≤ k.2.2.1 ∧ k.2.2.1 < 10) : (rdS (gT t) t.1 (t.1.toNat + 1) 0 (shClr D) k).1 = -1 ∧ (rdS (gT t) t.1 (t.1.toNat + 1) 0 (shClr D) k).2.1.2.2.2.2.1 = n ∧ PL (rdS (gT t) t.1 (t.1.toNat + 1) 0 (shClr D) k).2.1 := by
  obtain ⟨h4, tl, rfl, hw⟩ := h
  have hl := rL_len t0 tl
  have hP : PL (shClr D) := by
    intro j j0 j1
    have j2 : j < zup (zup D.2.1 0 0) 1 0 1 := j1
    rw [zup_same] at j2
    omega
  obtain ⟨m', s', k', e1, c1, d1, q1, p1⟩ := hw.2 (gT (rL t0 tl)) (rL t0 tl).1 0 ((rL t0 tl).1.toNat + 1) (shClr D) k (At_rL h0 tl) (by omega) (by show (0 : Int) + n ≤ 40; omega) hk (by omega) hP
  rw [e1]
  have c2 : s'.2.2.2.2.1 = 0 + n := c1
  cases m' with
  | zero => omega
  | succ m' =>
    rw [rdS, if_pos (by omega)]
    exact ⟨rfl, by show s'.2.2.2.2.1 = n; omega, p1⟩
theorem T_mono {s : zSh} (hT : ∀ k : Int, 0 ≤ k → k < s.2.2.2.1 → s.2.1 k ≤ s.2.1 (k + 1)) : ∀ (m : Nat) (k : Int), 0 ≤ k → k + m ≤ s.2.2.2.1 → s.2.1 k ≤ s.2.1 (k + m)
  | 0, k, h0, h1 => by rw [show k + ((0 : Nat) : Int) = k by omega]; omega
  | m + 1, k, h0, h1 => by
    have h2 := T_mono hT m k h0 (by omega)
    have h3 := hT (k + m) (by omega) (by omega)
    rw [show k + ((m + 1 : Nat) : Int) = k + m + 1 by omega]
    omega
theorem PL_H {s : zSh} (hT : ∀ k : Int, 0 ≤ k → k < s.2.2.2.1 → s.2.1 k ≤ s.2.1 (k + 1)) (h0 : 0 ≤ s.2.1 0) (h : PL s) : noH s := by
  intro l k l0 l1 k0 k1
  have h1 := T_mono hT (s.2.2.2.1 - (l + 1)).toNat (l + 1) (by omega) (by omega)
  rw [show l + 1 + (((s.2.2.2.1 - (l + 1)).toNat : Nat) : Int) = s.2.2.2.1 by omega] at h1
  have h2 := T_mono hT l.toNat 0 (by omega) (by omega)
  rw [show (0 : Int) + ((l.toNat : Nat) : Int) = l by omega] at h2
  unfold ltr
  rw [if_pos (by omega)]
  exact h _ (by omega) (by omega)
