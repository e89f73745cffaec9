/-! rows: one grows, the other is laid anew -/
def pre (r r' : zRw) : Prop := r.1 ≤ r'.1 ∧ ∀ j : Int, 0 ≤ j → j < r.1 → r'.2 j = r.2 j
theorem pre_rL (r : zRw) (l : List Int) : pre r (rL r l) := ⟨by rw [rL_len]; omega, fun j _ j1 => rL_lo r l j j1⟩
theorem pre_rfl (r : zRw) : pre r r := ⟨Int.le_refl _, fun _ _ _ => rfl⟩
theorem pre_tr {r r' r'' : zRw} (h : pre r r') (h2 : pre r' r'') : pre r r'' := ⟨Int.le_trans h.1 h2.1, fun j j0 j1 => (h2.2 j j0 (by have := h.1; omega)).trans (h.2 j j0 j1)⟩
theorem pre_rA (r : zRw) (c : Int) : pre r (rA r c) := pre_rL r [c]
theorem plO_pre (s : zSh) (f : Int) (y : zLy) : pre y.1 (plO s f y).1 ∧ pre y.2.1 (plO s f y).2.1 := by
  refine ⟨pre_tr (pre_rL _ _) (pre_rL _ _), ?_⟩
  show pre y.2.1 (plB y f)
  unfold plB
  split
  · exact pre_rL _ _
  · exact pre_rfl _
theorem plC_pre (s : zSh) (i f : Int) : ∀ (m : Nat) (y : zLy), pre y.1 (plC s i f m y).1 ∧ pre y.2.1 (plC s i f m y).2.1
  | 0, y => ⟨pre_rfl _, pre_rfl _⟩
  | m + 1, y => by
    rw [plC]
    split
    · have h1 := plO_pre s f y
      have h2 := plC_pre s i f m (plO s f y)
      exact ⟨pre_tr h1.1 h2.1, pre_tr h1.2 h2.2⟩
    · exact ⟨pre_rfl _, pre_rfl _⟩
theorem layS_pre (s : zSh) (y : zLy) (k : Int) : pre y.1 (layS s y k).1 ∧ pre y.2.1 (layS s y k).2.1 := by
  have h := plC_pre s k (plcF s y k) s.2.2.2.2.1.toNat y
  exact ⟨h.1, pre_tr h.2 (pre_rA _ _)⟩
/-- the same rows, line and chord at hand -/
def rq (y z : zLy) : Prop := Req y.1 z.1 ∧ Req y.2.1 z.2.1 ∧ y.2.2.1 = z.2.2.1 ∧ y.2.2.2.2.2.1 = z.2.2.2.2.2.1
theorem plO_rq {s : zSh} {f : Int} {y z : zLy} (h : rq y z) : rq (plO s f y) (plO s f z) := by
  obtain ⟨h1, h2, h3, h4⟩ := h
  have hB : Req (plB y f) (plB z f) := by
    unfold plB
    rw [h1.1, h2.1]
    split
    · exact Req_rL h2 _
    · exact h2
  refine ⟨?_, hB, h3, ?_⟩
  · show Req (rL (rL y.1 (List.replicate ((plB y f).1 - y.1.1).toNat 32)) (nameL (s.2.2.1 (y.2.2.2.2.2.1 * 5 + 2)) (s.2.2.1 (y.2.2.2.2.2.1 * 5 + 3)) (s.2.2.1 (y.2.2.2.2.2.1 * 5 + 4)))) (rL (rL z.1 (List.replicate ((plB z f).1 - z.1.1).toNat 32)) (nameL (s.2.2.1 (z.2.2.2.2.2.1 * 5 + 2)) (s.2.2.1 (z.2.2.2.2.2.1 * 5 + 3)) (s.2.2.1 (z.2.2.2.2.2.1 * 5 + 4))))
    rw [h4, hB.1, h1.1]
    exact Req_rL (Req_rL h1 _) _
  · show y.2.2.2.2.2.1 + 1 = z.2.2.2.2.2.1 + 1
    rw [h4]
theorem plC_rq {s : zSh} {i f : Int} : ∀ (m : Nat) (y z : zLy), rq y z → rq (plC s i f m y) (plC s i f m z)
  | 0, y, z, h => h
  | m + 1, y, z, h => by
    rw [plC, plC, h.2.2.1, h.2.2.2]
    split
    · exact plC_rq m _ _ (plO_rq h)
    · exact h
theorem plc_rq {s : zSh} {k : Int} {y z : zLy} (h : rq y z) : rq (plc s y k) (plc s z k) := by
  have e : plcF s y k = plcF s z k := by unfold plcF; rw [h.2.2.1]
  unfold plc
  rw [e]
  exact plC_rq _ _ _ h
theorem layS_rq {s : zSh} {k : Int} {y z : zLy} (h : rq y z) : rq (layS s y k) (layS s z k) := by
  have h1 := plc_rq (s := s) (k := k) h
  refine ⟨h1.1, ?_, h1.2.2.1, h1.2.2.2⟩
  show Req (rA (plc s y k).2.1 (ltr s.1 s.2.1 y.2.2.1 k)) (rA (plc s z k).2.1 (ltr s.1 s.2.1 z.2.2.1 k))
  rw [h.2.2.1]
  exact Req_rA h1.2.1 _
theorem plC_fl (s : zSh) (i f : Int) : ∀ (m : Nat) (y : zLy), (plC s i f m y).2.2.2.1 = y.2.2.2.1 ∧ (plC s i f m y).2.2.2.2.1 = y.2.2.2.2.1 ∧ (plC s i f m y).2.2.2.2.2.2 = y.2.2.2.2.2.2
  | 0, y => ⟨rfl, rfl, rfl⟩
  | m + 1, y => by
    rw [plC]
    split
    · exact plC_fl s i f m _
    · exact ⟨rfl, rfl, rfl⟩
theorem layI_sn (s : zSh) : ∀ (m : Nat) (k : Int) (y : zLy), layI s (m + 1) k y = layS s (layI s m k y) (k + m)
  | 0, k, y => by
    show layS s y k = layS s y (k + ((0 : Nat) : Int))
    rw [show k + ((0 : Nat) : Int) = k by omega]
  | m + 1, k, y => by
    show layI s (m + 1) (k + 1) (layS s y k) = layS s (layI s m (k + 1) (layS s y k)) (k + ((m + 1 : Nat) : Int))
    rw [layI_sn s m (k + 1), show k + 1 + (m : Int) = k + ((m + 1 : Nat) : Int) by omega]
/-- the line laid from a up to k -/
def zZ (s : zSh) (l a k : Int) : zLy := layI s (k - a).toNat a (yB s l a)
theorem zZ_s {s : zSh} {l a k : Int} (h : a ≤ k) : zZ s l a (k + 1) = layS s (zZ s l a k) k := by
  unfold zZ
  rw [show (k + 1 - a).toNat = (k - a).toNat + 1 by omega, layI_sn, show a + (((k - a).toNat : Nat) : Int) = k by omega]
theorem zZ_0 (s : zSh) (l a : Int) : zZ s l a a = yB s l a := by
  unfold zZ
  rw [show (a - a).toNat = 0 by omega]
  rfl
theorem zZ_pre {s : zSh} {l a k : Int} (h : a ≤ k) : ∀ m : Nat, pre (zZ s l a k).1 (zZ s l a (k + m)).1 ∧ pre (zZ s l a k).2.1 (zZ s l a (k + m)).2.1
  | 0 => by rw [show k + ((0 : Nat) : Int) = k by omega]; exact ⟨pre_rfl _, pre_rfl _⟩
  | m + 1 => by
    have h1 := zZ_pre (s := s) (l := l) h m
    have h2 := layS_pre s (zZ s l a (k + m)) (k + m)
    rw [← zZ_s (by omega), show k + (m : Int) + 1 = k + ((m + 1 : Nat) : Int) by omega] at h2
    exact ⟨pre_tr h1.1 h2.1, pre_tr h1.2 h2.2⟩
theorem zZ_le {s : zSh} {l a k k' : Int} (h : a ≤ k) (h2 : k ≤ k') : pre (zZ s l a k).1 (zZ s l a k').1 ∧ pre (zZ s l a k).2.1 (zZ s l a k').2.1 := by
  have := zZ_pre (s := s) (l := l) h (k' - k).toNat
  rwa [show k + (((k' - k).toNat : Nat) : Int) = k' by omega] at this
theorem layE_z {s : zSh} {l a k : Int} : layE s l a k (yB s l a) = if k = s.2.1 (l + 1) - s.2.1 l then plc s (zZ s l a k) k else zZ s l a k := rfl
theorem zZ_E {s : zSh} {l a k k' : Int} (h : a ≤ k) (h2 : k ≤ k') : pre (zZ s l a k).1 (layE s l a k' (yB s l a)).1 ∧ pre (zZ s l a k).2.1 (layE s l a k' (yB s l a)).2.1 := by
  have h3 := zZ_le (s := s) (l := l) h h2
  rw [layE_z]
  split
  · have h4 := plC_pre s k' (plcF s (zZ s l a k') k') s.2.2.2.2.1.toNat (zZ s l a k')
    exact ⟨pre_tr h3.1 h4.1, pre_tr h3.2 h4.2⟩
  · exact h3
theorem fit_mono {s : zSh} {l w a k k' : Int} (h : a ≤ k) (h2 : k < k') (h3 : k' ≤ s.2.1 (l + 1) - s.2.1 l) (hf : fit s l w a k') : fit s l w a k := by
  have h4 := zZ_E (s := s) (l := l) h (Int.le_of_lt h2)
  have e : layE s l a k (yB s l a) = zZ s l a k := by rw [layE_z, if_neg (by omega)]
  show (layE s l a k (yB s l a)).1.1 ≤ w ∧ (layE s l a k (yB s l a)).2.1.1 ≤ w
  rw [e]
  exact ⟨Int.le_trans h4.1.1 hf.1, Int.le_trans h4.2.1 hf.2⟩
theorem zZ_ln {s : zSh} {l a k : Int} (h : a ≤ k) : (zZ s l a k).2.2.1 = l := by
  have : ∀ m : Nat, (zZ s l a (a + m)).2.2.1 = l := by
    intro m
    induction m with
    | zero => rw [show a + ((0 : Nat) : Int) = a by omega, zZ_0]; rfl
    | succ m ih => rw [show a + ((m + 1 : Nat) : Int) = a + m + 1 by omega, zZ_s (by omega), layS_ln, ih]
  have h2 := this (k - a).toNat
  rwa [show a + (((k - a).toNat : Nat) : Int) = k by omega] at h2
theorem zZ_ok {s : zSh} (hs : okW s) {l a k : Int} (hl : 0 ≤ l ∧ l < s.2.2.2.1) (ha : 0 ≤ a) (h : a ≤ k) : okY s k (zZ s l a k) := by
  have h1 := layI_ok hs.1.2.1 (k - a).toNat a (yB s l a) (yB_ok hs hl ha)
  rwa [show a + (((k - a).toNat : Nat) : Int) = k by omega] at h1
theorem zZ_ptr {s : zSh} (hs : okW s) {l a k : Int} (hl : 0 ≤ l ∧ l < s.2.2.2.1) (ha : 0 ≤ a) (h : a ≤ k) : ptr s l k (zZ s l a k).2.2.2.2.2.1 := by
  have : ∀ m : Nat, ptr s l (a + m) (zZ s l a (a + m)).2.2.2.2.2.1 := by
    intro m
    induction m with
    | zero => rw [show a + ((0 : Nat) : Int) = a by omega, zZ_0]; exact yB_ptr hs l a
    | succ m ih =>
      rw [show a + ((m + 1 : Nat) : Int) = a + m + 1 by omega, zZ_s (by omega)]
      exact layS_ptr hs (zZ_ln (by omega)) (zZ_ok hs hl ha (by omega)).2.2.1.1 ih
  have h2 := this (k - a).toNat
  rwa [show a + (((k - a).toNat : Nat) : Int) = k by omega] at h2
theorem ptr_uq {s : zSh} {l a c c' : Int} (h : ptr s l a c) (h' : ptr s l a c') (hc : 0 ≤ c ∧ c ≤ s.2.2.2.2.1) (hc' : 0 ≤ c' ∧ c' ≤ s.2.2.2.2.1) : c = c' := by
  by_cases h1 : c < c'
  · exact absurd (h'.1 c hc.1 h1) (h.2 c (Int.le_refl _) (by omega))
  · by_cases h2 : c' < c
    · exact absurd (h.1 c' hc'.1 h2) (h'.2 c' (Int.le_refl _) (by omega))
    · omega
/-- where a pair ends: told without the way it is sought -/
def isE (s : zSh) (l w a E : Int) : Prop := (a = s.2.1 (l + 1) - s.2.1 l ∧ E = a) ∨ ((a < E ∧ E ≤ s.2.1 (l + 1) - s.2.1 l) ∧ brk s l E ∧ ((fit s l w a E ∧ ∀ k, E < k → k ≤ s.2.1 (l + 1) - s.2.1 l → brk s l k → ¬ fit s l w a k) ∨ (¬ fit s l w a E ∧ ∀ k, a < k → k < E → ¬ brk s l k)))
theorem edR_fit {s : zSh} {l w a E : Int} (ha : 0 ≤ a) (hE : a < E ∧ E ≤ s.2.1 (l + 1) - s.2.1 l) (hb : brk s l E) (hf : fit s l w a E) (hn : ∀ k, E < k → k ≤ s.2.1 (l + 1) - s.2.1 l → brk s l k → ¬ fit s l w a k) : ∀ (m : Nat) (k nx be : Int), k = a + m → k ≤ s.2.1 (l + 1) - s.2.1 l → ((E ≤ k ∧ be = -1) ∨ (k < E ∧ be = E)) → edR s l w a m k nx be = E
  | 0, k, nx, be, hk, hk2, h => by
    rw [edR, if_neg (by omega)]
    omega
  | m + 1, k, nx, be, hk, hk2, h => by
    rw [edR]
    by_cases h9 : brk s l k
    · rw [if_pos h9]
      refine edR_fit ha hE hb hf hn m (k - 1) k _ (by omega) (by omega) ?_
      by_cases hkE : k = E
      · rw [if_pos ⟨by omega, by rw [hkE]; exact hf⟩]; omega
      · by_cases hk3 : E < k
        · rw [if_neg (fun h => hn k hk3 hk2 h9 h.2)]; omega
        · rw [if_neg (by omega)]; omega
    · rw [if_neg h9]
      have : ¬ k = E := fun h => h9 (by rw [h]; exact hb)
      exact edR_fit ha hE hb hf hn m (k - 1) nx be (by omega) (by omega) (by omega)
theorem edR_no {s : zSh} {l w a E : Int} (hE : a < E ∧ E ≤ s.2.1 (l + 1) - s.2.1 l) (hb : brk s l E) (hn : ∀ k, E ≤ k → k ≤ s.2.1 (l + 1) - s.2.1 l → ¬ fit s l w a k) (hm : ∀ k, a < k → k < E → ¬ brk s l k) : ∀ (m : Nat) (k nx : Int), k = a + m → k ≤ s.2.1 (l + 1) - s.2.1 l → (k < E → nx = E) → edR s l w a m k nx (-1) = E
  | 0, k, nx, hk, hk2, h => by
    rw [edR, if_pos (by decide)]
    exact h (by omega)
  | m + 1, k, nx, hk, hk2, h => by
    rw [edR]
    by_cases h9 : brk s l k
    · rw [if_pos h9]
      have hk3 : E ≤ k := by
        by_cases hk4 : E ≤ k
        · exact hk4
        · exact absurd h9 (hm k (by omega) (by omega))
      rw [if_neg (fun h => hn k hk3 hk2 h.2)]
      exact edR_no hE hb hn hm m (k - 1) k (by omega) (by omega) (by omega)
    · rw [if_neg h9]
      have : ¬ k = E := fun h => h9 (by rw [h]; exact hb)
      exact edR_no hE hb hn hm m (k - 1) nx (by omega) (by omega) (fun h2 => h (by omega))
theorem isE_e {s : zSh} {l w a E : Int} (ha : 0 ≤ a) (h : isE s l w a E) : edF s l w a = E := by
  rcases h with ⟨h1, h2⟩ | ⟨h1, h2, ⟨h3, h4⟩ | ⟨h3, h4⟩⟩
  · unfold edF
    rw [show (s.2.1 (l + 1) - s.2.1 l - a).toNat = 0 by omega, edR, if_pos (by decide)]
    omega
  · exact edR_fit ha h1 h2 h3 h4 _ _ _ _ (by omega) (Int.le_refl _) (by omega)
  · refine edR_no h1 h2 ?_ h4 _ _ _ (by omega) (Int.le_refl _) (by omega)
    intro k k0 k1 hf
    by_cases hk : k = E
    · rw [hk] at hf; exact h3 hf
    · exact h3 (fit_mono (by omega) (by omega) k1 hf)
/-- what stands while a pair is laid -/
def kI (s : zSh) (l w a i : Int) (y : zLy) : Prop := rq y (zZ s l a i) ∧ y.2.2.2.1 = w ∧ y.2.2.2.2.1 = a ∧ ((y.2.2.2.2.2.2.1 = -1 ∧ ∀ c, a < c → c < i → ¬ brk s l c) ∨ ((a < y.2.2.2.2.2.2.1 ∧ y.2.2.2.2.2.2.1 < i) ∧ brk s l y.2.2.2.2.2.2.1 ∧ fit s l w a y.2.2.2.2.2.2.1 ∧ y.2.2.2.2.2.2.2.2.1 = (zZ s l a y.2.2.2.2.2.2.1).1.1 ∧ y.2.2.2.2.2.2.2.2.2 = (zZ s l a y.2.2.2.2.2.2.1).2.1.1 ∧ y.2.2.2.2.2.2.2.1 = (zZ s l a y.2.2.2.2.2.2.1).2.2.2.2.2.1 ∧ ∀ c, y.2.2.2.2.2.2.1 < c → c < i → ¬ brk s l c))
/-- what stands when a pair is laid -/
def kE (s : zSh) (l w a : Int) (y : zLy) : Prop := isE s l w a y.2.2.2.2.2.2.1 ∧ Req y.1 (layE s l a y.2.2.2.2.2.2.1 (yB s l a)).1 ∧ Req y.2.1 (layE s l a y.2.2.2.2.2.2.1 (yB s l a)).2.1 ∧ y.2.2.1 = l ∧ y.2.2.2.1 = w ∧ (y.2.2.2.2.2.2.1 < s.2.1 (l + 1) - s.2.1 l → y.2.2.2.2.2.2.2.1 = (zZ s l a y.2.2.2.2.2.2.1).2.2.2.2.2.1)
theorem rC_self {r : zRw} : rC r r.1 = r := by
  unfold rC
  rw [if_neg (by omega)]
theorem rC_pre {r r' z : zRw} (h : Req r' z) (h2 : pre r z) (h0 : 0 ≤ r.1) : Req (rC r' r.1) r := by
  have h3 := h.1
  have h4 := h2.1
  refine ⟨?_, ?_⟩
  · show (if 0 ≤ r.1 ∧ r.1 < r'.1 then r.1 else r'.1) = r.1
    split <;> omega
  · intro j j0 j1
    have j2 : j < r.1 := by
      have : (rC r' r.1).1 = r.1 := by
        show (if 0 ≤ r.1 ∧ r.1 < r'.1 then r.1 else r'.1) = r.1
        split <;> omega
      omega
    show r'.2 j = r.2 j
    rw [h.2 j j0 (by omega), h2.2 j j0 j2]
theorem cut_acc {y : zLy} (h1 : y.2.2.2.2.2.2.2.2.1 = y.1.1) (h2 : y.2.2.2.2.2.2.2.2.2 = y.2.1.1) : (cutB y).1 = y.1 ∧ (cutB y).2.1 = y.2.1 := by
  constructor
  · show rC y.1 y.2.2.2.2.2.2.2.2.1 = y.1
    rw [h1, rC_self]
  · show rC y.2.1 y.2.2.2.2.2.2.2.2.2 = y.2.1
    rw [h2, rC_self]
theorem inB_brk {s : zSh} (hs : okW s) {l a i : Int} {y : zLy} (hl : 0 ≤ l ∧ l < s.2.2.2.1) (hln : y.2.2.1 = l) (hbg : y.2.2.2.2.1 = a) (ha : 0 ≤ a) (hai : a < i) (hi : i < s.2.1 (l + 1) - s.2.1 l) : ¬ inB s y i = 0 ↔ brk s l i := by
  have hD := hs.1.1
  have z1 := hD.1
  have t1 := hD.2.2.1 l (by omega) (by omega)
  have t2 := hD.2.2.1 (l + 1) (by omega) (by omega)
  have h1 := isLt_1 hD.2.2.2.2.2 t1.1 t2.2 i
  unfold inB
  rw [hln, hbg]
  constructor
  · intro h
    have h2 := ite1 h
    exact Or.inr (Or.inr ⟨(h1.mp h2.2.1).2, h2.2.2⟩)
  · rintro (h | h | h)
    · omega
    · omega
    · rw [if_pos ⟨hai, h1.mpr ⟨by omega, h.1⟩, h.2⟩]; decide
theorem layK_0 (s : zSh) (len : Int) (m : Nat) (i : Int) (y : zLy) : layK s len m i 0 y = layF s len 0 y := by
  cases m with
  | zero => rfl
  | succ m => rw [layK, if_pos (Or.inl rfl)]
theorem kE_old {s : zSh} (hs : okW s) {l w a i : Int} {y z : zLy} (hl : 0 ≤ l ∧ l < s.2.2.2.1) (ha : 0 ≤ a) (hi : i ≤ s.2.1 (l + 1) - s.2.1 l) (hy : y.2.2.1 = l ∧ y.2.2.2.1 = w) (hra : Req y.1 z.1) (hrb : Req y.2.1 z.2.1) (hz : ∀ e, a ≤ e → e < i → pre (zZ s l a e).1 z.1 ∧ pre (zZ s l a e).2.1 z.2.1) (hE : (a < y.2.2.2.2.2.2.1 ∧ y.2.2.2.2.2.2.1 < i) ∧ brk s l y.2.2.2.2.2.2.1 ∧ fit s l w a y.2.2.2.2.2.2.1 ∧ y.2.2.2.2.2.2.2.2.1 = (zZ s l a y.2.2.2.2.2.2.1).1.1 ∧ y.2.2.2.2.2.2.2.2.2 = (zZ s l a y.2.2.2.2.2.2.1).2.1.1 ∧ y.2.2.2.2.2.2.2.1 = (zZ s l a y.2.2.2.2.2.2.1).2.2.2.2.2.1 ∧ ∀ c, y.2.2.2.2.2.2.1 < c → c < i → ¬ brk s l c) (hno : ∀ k, i ≤ k → k ≤ s.2.1 (l + 1) - s.2.1 l → ¬ fit s l w a k) : kE s l w a (cutB y) := by
  obtain ⟨e1, e2, e3, e4, e5, e6, e7⟩ := hE
  have hz2 := hz y.2.2.2.2.2.2.1 (by omega) e1.2
  have hok := zZ_ok hs hl ha (show a ≤ y.2.2.2.2.2.2.1 by omega)
  have eE : layE s l a y.2.2.2.2.2.2.1 (yB s l a) = zZ s l a y.2.2.2.2.2.2.1 := by rw [layE_z, if_neg (by omega)]
  refine ⟨Or.inr ⟨⟨e1.1, by show y.2.2.2.2.2.2.1 ≤ _; omega⟩, e2, Or.inl ⟨e3, ?_⟩⟩, ?_, ?_, hy.1, hy.2, fun _ => e6⟩
  · intro k k0 k1 k2
    have k0 : y.2.2.2.2.2.2.1 < k := k0
    by_cases hk : k < i
    · exact absurd k2 (e7 k k0 hk)
    · exact hno k (by omega) k1
  · show Req (rC y.1 y.2.2.2.2.2.2.2.2.1) (layE s l a y.2.2.2.2.2.2.1 (yB s l a)).1
    rw [eE, e4]
    exact rC_pre hra hz2.1 hok.1.1
  · show Req (rC y.2.1 y.2.2.2.2.2.2.2.2.2) (layE s l a y.2.2.2.2.2.2.1 (yB s l a)).2.1
    rw [eE, e5]
    exact rC_pre hrb hz2.2 hok.2.1.1
theorem layK_E {s : zSh} (hs : okW s) {l w a : Int} (hl : 0 ≤ l ∧ l < s.2.2.2.1) (ha : 0 ≤ a) : ∀ (m : Nat) (i : Int) (y : zLy), a ≤ i → i ≤ s.2.1 (l + 1) - s.2.1 l → s.2.1 (l + 1) - s.2.1 l - i < m → kI s l w a i y → kE s l w a (layK s (s.2.1 (l + 1) - s.2.1 l) m i 1 y)
  | 0, i, y, h0, h1, hm, _ => absurd hm (by omega)
  | m + 1, i, y, h0, h1, hm, hk => by
    obtain ⟨q1, q2, q3, q4⟩ := hk
    have hln : y.2.2.1 = l := q1.2.2.1.trans (zZ_ln h0)
    rw [layK]
    by_cases hi : s.2.1 (l + 1) - s.2.1 l ≤ i
    · rw [if_pos (Or.inr hi)]
      have hie : i = s.2.1 (l + 1) - s.2.1 l := by omega
      have p1 := plc_rq (s := s) (k := i) q1
      have p2 := plC_fl s i (plcF s y i) s.2.2.2.2.1.toNat y
      have p3 : (plc s y i).2.2.1 = l := (plC_ln s i _ _ y).trans hln
      have eE : layE s l a i (yB s l a) = plc s (zZ s l a i) i := by rw [layE_z, if_pos hie]
      unfold layF
      rw [if_neg (show ¬ (1 : Int) = 0 by decide), ← hie]
      have p4 : (plc s y i).2.2.2.2.2.2 = y.2.2.2.2.2.2 := p2.2.2
      have p5 : (plc s y i).2.2.2.1 = w := p2.1.trans q2
      have hfit : offF (plc s y i) = 1 ↔ fit s l w a i := by
        unfold offF
        rw [p5, p1.1.1, p1.2.1.1]
        show _ ↔ (layE s l a i (yB s l a)).1.1 ≤ w ∧ (layE s l a i (yB s l a)).2.1.1 ≤ w
        rw [eE]
        constructor
        · intro h
          split at h
          · assumption
          · exact absurd h (by decide)
        · intro h
          exact if_pos h
      by_cases hacc : offF (plc s y i) = 1 ∨ (plc s y i).2.2.2.2.2.2.1 = -1
      · have eo : offE (plc s y i) i = ((plc s y i).1, (plc s y i).2.1, (plc s y i).2.2.1, (plc s y i).2.2.2.1, (plc s y i).2.2.2.2.1, (plc s y i).2.2.2.2.2.1, i, (plc s y i).2.2.2.2.2.1, (plc s y i).1.1, (plc s y i).2.1.1) := if_pos hacc
        rw [eo]
        have hc := cut_acc (y := ((plc s y i).1, (plc s y i).2.1, (plc s y i).2.2.1, (plc s y i).2.2.2.1, (plc s y i).2.2.2.2.1, (plc s y i).2.2.2.2.2.1, i, (plc s y i).2.2.2.2.2.1, (plc s y i).1.1, (plc s y i).2.1.1)) rfl rfl
        refine ⟨?_, ?_, ?_, p3, p5, ?_⟩
        · show isE s l w a i
          by_cases hai : a = i
          · exact Or.inl ⟨by omega, hai.symm⟩
          · refine Or.inr ⟨⟨by omega, by omega⟩, Or.inr (Or.inl hie), ?_⟩
            by_cases hf : fit s l w a i
            · exact Or.inl ⟨hf, fun k k0 k1 => absurd k1 (by omega)⟩
            · right
              refine ⟨hf, ?_⟩
              rcases q4 with q5 | q5
              · exact q5.2
              · exfalso
                rcases hacc with h | h
                · exact hf (hfit.mp h)
                · rw [p4] at h
                  have := q5.1.1
                  omega
        · rw [hc.1]
          show Req (plc s y i).1 (layE s l a i (yB s l a)).1
          rw [eE]; exact p1.1
        · rw [hc.2]
          show Req (plc s y i).2.1 (layE s l a i (yB s l a)).2.1
          rw [eE]; exact p1.2.1
        · intro h
          have h : i < s.2.1 (l + 1) - s.2.1 l := h
          omega
      · have eo : offE (plc s y i) i = plc s y i := if_neg hacc
        rw [eo]
        have hnf : ¬ fit s l w a i := fun h => hacc (Or.inl (hfit.mpr h))
        have hen : ¬ (plc s y i).2.2.2.2.2.2.1 = -1 := fun h => hacc (Or.inr h)
        rw [p4] at hen
        rcases q4 with q5 | q5
        · exact absurd q5.1 hen
        · refine kE_old hs hl ha (i := i) (z := plc s (zZ s l a i) i) h1 ⟨p3, p5⟩ p1.1 p1.2.1 ?_ (by rw [p4]; exact q5) ?_
          · intro e e0 e1
            have h3 := zZ_E (s := s) (l := l) (k := e) (k' := i) e0 (by omega)
            rw [eE] at h3
            exact h3
          · intro k k0 k1
            rw [show k = i by omega]
            exact hnf
    · rw [if_neg (show ¬ ((1 : Int) = 0 ∨ s.2.1 (l + 1) - s.2.1 l ≤ i) by omega)]
      have s1 := layS_rq (s := s) (k := i) q1
      rw [← zZ_s h0] at s1
      by_cases hin : inB s y i = 0
      · rw [if_pos hin]
        have hnb : a < i → ¬ brk s l i := fun hai h => (inB_brk hs hl hln q3 ha hai (by omega)).mpr h hin
        have f1 := plC_fl s i (plcF s y i) s.2.2.2.2.1.toNat y
        have f4 : (layS s y i).2.2.2.2.2.2 = y.2.2.2.2.2.2 := f1.2.2
        refine layK_E hs hl ha m (i + 1) (layS s y i) (by omega) (by omega) (by omega) ⟨s1, f1.1.trans q2, f1.2.1.trans q3, ?_⟩
        rw [f4]
        rcases q4 with q5 | q5
        · left
          refine ⟨q5.1, fun c c0 c1 => ?_⟩
          by_cases hc : c = i
          · rw [hc]; exact hnb (by omega)
          · exact q5.2 c c0 (by omega)
        · right
          obtain ⟨e1, e2, e3, e4, e5, e6, e7⟩ := q5
          refine ⟨⟨e1.1, by omega⟩, e2, e3, e4, e5, e6, fun c c0 c1 => ?_⟩
          by_cases hc : c = i
          · rw [hc]; exact hnb (by omega)
          · exact e7 c c0 (by omega)
      · rw [if_neg hin]
        have hai : a < i := by
          have h2 := ite1 hin
          omega
        have hbr := (inB_brk hs hl hln q3 ha hai (by omega)).mp hin
        have eE : layE s l a i (yB s l a) = zZ s l a i := by rw [layE_z, if_neg (by omega)]
        have hfit : offF y = 1 ↔ fit s l w a i := by
          unfold offF
          rw [q2, q1.1.1, q1.2.1.1]
          show _ ↔ (layE s l a i (yB s l a)).1.1 ≤ w ∧ (layE s l a i (yB s l a)).2.1.1 ≤ w
          rw [eE]
          constructor
          · intro h
            split at h
            · assumption
            · exact absurd h (by decide)
          · intro h
            exact if_pos h
        by_cases hf : offF y = 1
        · rw [if_pos hf]
          have eo : offE y i = (y.1, y.2.1, y.2.2.1, y.2.2.2.1, y.2.2.2.2.1, y.2.2.2.2.2.1, i, y.2.2.2.2.2.1, y.1.1, y.2.1.1) := if_pos (Or.inl hf)
          rw [eo]
          have r1 : rq (y.1, y.2.1, y.2.2.1, y.2.2.2.1, y.2.2.2.2.1, y.2.2.2.2.2.1, i, y.2.2.2.2.2.1, y.1.1, y.2.1.1) (zZ s l a i) := q1
          have s2 := layS_rq (s := s) (k := i) r1
          rw [← zZ_s h0] at s2
          have f1 := plC_fl s i (plcF s (y.1, y.2.1, y.2.2.1, y.2.2.2.1, y.2.2.2.2.1, y.2.2.2.2.2.1, i, y.2.2.2.2.2.1, y.1.1, y.2.1.1) i) s.2.2.2.2.1.toNat (y.1, y.2.1, y.2.2.1, y.2.2.2.1, y.2.2.2.2.1, y.2.2.2.2.2.1, i, y.2.2.2.2.2.1, y.1.1, y.2.1.1)
          have f4 : (layS s (y.1, y.2.1, y.2.2.1, y.2.2.2.1, y.2.2.2.2.1, y.2.2.2.2.2.1, i, y.2.2.2.2.2.1, y.1.1, y.2.1.1) i).2.2.2.2.2.2 = (i, y.2.2.2.2.2.1, y.1.1, y.2.1.1) := f1.2.2
          refine layK_E hs hl ha m (i + 1) _ (by omega) (by omega) (by omega) ⟨s2, f1.1.trans q2, f1.2.1.trans q3, Or.inr ?_⟩
          rw [f4]
          exact ⟨⟨hai, by show i < i + 1; omega⟩, hbr, hfit.mp hf, q1.1.1, q1.2.1.1, q1.2.2.2, fun c c0 c1 => absurd c1 (by have c0 : i < c := c0; omega)⟩
        · rw [if_neg hf, layK_0]
          have hnf : ∀ k, i ≤ k → k ≤ s.2.1 (l + 1) - s.2.1 l → ¬ fit s l w a k := by
            intro k k0 k1 hfk
            by_cases hk : k = i
            · rw [hk] at hfk; exact hf (hfit.mpr hfk)
            · exact hf (hfit.mpr (fit_mono h0 (by omega) k1 hfk))
          unfold layF
          rw [if_pos rfl]
          rcases q4 with q5 | q5
          · have eo : offE y i = (y.1, y.2.1, y.2.2.1, y.2.2.2.1, y.2.2.2.2.1, y.2.2.2.2.2.1, i, y.2.2.2.2.2.1, y.1.1, y.2.1.1) := if_pos (Or.inr q5.1)
            rw [eo]
            have hc := cut_acc (y := (y.1, y.2.1, y.2.2.1, y.2.2.2.1, y.2.2.2.2.1, y.2.2.2.2.2.1, i, y.2.2.2.2.2.1, y.1.1, y.2.1.1)) rfl rfl
            refine ⟨?_, ?_, ?_, hln, q2, ?_⟩
            · show isE s l w a i
              exact Or.inr ⟨⟨hai, by omega⟩, hbr, Or.inr ⟨hnf i (Int.le_refl _) h1, q5.2⟩⟩
            · rw [hc.1]
              show Req y.1 (layE s l a i (yB s l a)).1
              rw [eE]; exact q1.1
            · rw [hc.2]
              show Req y.2.1 (layE s l a i (yB s l a)).2.1
              rw [eE]; exact q1.2.1
            · intro _
              show y.2.2.2.2.2.1 = (zZ s l a i).2.2.2.2.2.1
              exact q1.2.2.2
          · have eo : offE y i = y := if_neg (by rintro (h | h); exact hf h; have := q5.1.1; omega)
            rw [eo]
            exact kE_old hs hl ha (i := i) (z := zZ s l a i) h1 ⟨hln, q2⟩ q1.1 q1.2.1 (fun e e0 e1 => zZ_le e0 (by omega)) q5 hnf

