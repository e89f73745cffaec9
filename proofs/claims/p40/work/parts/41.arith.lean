/-! the law of its own: keys, degrees, frets, tones, spelling, the fingerprint -/
def dgT (d mn : Int) : Int := dgF ((d + pcl (tonO 0 mn)) % 12) 0 mn
theorem dg_all : (List.range 2).all (fun mn => (List.range 13).all fun a => (List.range 12).all fun pc => decide (dgF pc ((a : Int) - 6) mn = dgT (((pc : Int) - pcl (tonO ((a : Int) - 6) mn)) % 12) mn ∧ (0 ≤ dgF pc ((a : Int) - 6) mn ∧ dgF pc ((a : Int) - 6) mn ≤ 7) ∧ (dgF pc ((a : Int) - 6) mn = 1 ↔ (pc : Int) = pcl (tonO ((a : Int) - 6) mn)))) = true := by decide +kernel
theorem dg_f {pc sg mn : Int} (hp : 0 ≤ pc ∧ pc < 12) (hs : -6 ≤ sg ∧ sg ≤ 6) (hm : mn = 0 ∨ mn = 1) : dgF pc sg mn = dgT ((pc - pcl (tonO sg mn)) % 12) mn ∧ (0 ≤ dgF pc sg mn ∧ dgF pc sg mn ≤ 7) ∧ (dgF pc sg mn = 1 ↔ pc = pcl (tonO sg mn)) := by
  have h1 := of_decide_eq_true (List.all_eq_true.mp (List.all_eq_true.mp (List.all_eq_true.mp dg_all mn.toNat (List.mem_range.mpr (by omega))) (sg + 6).toNat (List.mem_range.mpr (by omega))) pc.toNat (List.mem_range.mpr (by omega)))
  rwa [show ((mn.toNat : Nat) : Int) = mn by omega, show (((sg + 6).toNat : Nat) : Int) - 6 = sg by omega, show ((pc.toNat : Nat) : Int) = pc by omega] at h1
theorem efR_min (df : Int → Int) : ∀ (m : Nat) (f b s : Int), s = df b → df (efR df m f b s) ≤ df b ∧ (∀ x : Int, f ≤ x → x < f + m → df (efR df m f b s) ≤ df x) ∧ (efR df m f b s = b ∨ (f ≤ efR df m f b s ∧ efR df m f b s < f + m))
  | 0, f, b, s, h => ⟨Int.le_refl _, fun x h0 h1 => absurd h1 (by omega), Or.inl rfl⟩
  | m + 1, f, b, s, h => by
    rw [efR]
    by_cases c : df f < s
    · rw [if_pos c, if_pos c]
      obtain ⟨h1, h2, h3⟩ := efR_min df m (f + 1) f (df f) rfl
      refine ⟨by omega, fun x h0 hx => ?_, by omega⟩
      by_cases hx2 : x = f
      · rw [hx2]; exact h1
      · exact h2 x (by omega) (by omega)
    · rw [if_neg c, if_neg c]
      obtain ⟨h1, h2, h3⟩ := efR_min df m (f + 1) b s h
      refine ⟨h1, fun x h0 hx => ?_, by omega⟩
      by_cases hx2 : x = f
      · rw [hx2]; omega
      · exact h2 x (by omega) (by omega)
theorem efF_min (F : Int → Int) {cc fr : Int} (hf : 0 ≤ fr ∧ fr ≤ 7) : dfF F cc (efF F cc) ≤ dfF F cc fr ∧ (0 ≤ efF F cc ∧ efF F cc ≤ 7) := by
  obtain ⟨h1, h2, h3⟩ := efR_min (dfF F cc) 7 1 0 (dfF F cc 0) rfl
  refine ⟨?_, ?_⟩
  · by_cases h : fr = 0
    · rw [h]; exact h1
    · exact h2 fr (by omega) (by omega)
  · unfold efF
    omega
theorem dfR_n (F : Int → Int) (fr : Int) : ∀ (m : Nat) (i s h : Int), s + m ≤ dfR F fr m i s h
  | 0, i, s, h => by simp [dfR]
  | m + 1, i, s, h => by
    simp only [dfR]
    have h2 := shD_b (F (i * 5 + 3)) (F (i * 5 + 4)) (F (i * 5 + 2)) (easyF (F (i * 5 + 3)).toNat ((7 * F (i * 5 + 2) + -fr) % 12))
    generalize shD (F (i * 5 + 3)) (F (i * 5 + 4)) (F (i * 5 + 2)) (easyF (F (i * 5 + 3)).toNat ((7 * F (i * 5 + 2) + -fr) % 12)) = x at *
    have h3 : ∀ (c : Prop) [Decidable c], 0 ≤ (if c then (1 : Int) else 0) ∧ (if c then (1 : Int) else 0) ≤ 1 := fun c _ => by split <;> omega
    have h4 := h3 (easyF (F (i * 5 + 3)).toNat ((7 * F (i * 5 + 2) + -fr) % 12) = 0 ∧ h ≠ 100 ∧ h ≠ (7 * F (i * 5 + 2) + -fr) % 12)
    generalize (if easyF (F (i * 5 + 3)).toNat ((7 * F (i * 5 + 2) + -fr) % 12) = 0 ∧ h ≠ 100 ∧ h ≠ (7 * F (i * 5 + 2) + -fr) % 12 then (1 : Int) else 0) = y at *
    have h1 := dfR_n F fr m (i + 1) (s + x + y) (if easyF (F (i * 5 + 3)).toNat ((7 * F (i * 5 + 2) + -fr) % 12) = 0 then (7 * F (i * 5 + 2) + -fr) % 12 else 100)
    omega
theorem dfF_n (F : Int → Int) {cc : Int} (fr : Int) (h : 0 ≤ cc) : fr + cc ≤ dfF F cc fr := by
  have := dfR_n F fr cc.toNat 0 fr 100
  unfold dfF
  omega
theorem bsR_ge (sc : Int → Int) : ∀ (m : Nat) (z b s : Int), s = sc b → s ≤ sc (bsR sc m z b s)
  | 0, z, b, s, h => by rw [bsR]; omega
  | m + 1, z, b, s, h => by
    simp only [bsR]
    by_cases c1 : sc z > s
    · simp only [if_pos c1]
      by_cases c2 : sc (-z) > sc z
      · simp only [if_pos c2]
        have := bsR_ge sc m (z + 1) (-z) (sc (-z)) rfl
        omega
      · simp only [if_neg c2]
        have := bsR_ge sc m (z + 1) z (sc z) rfl
        omega
    · simp only [if_neg c1]
      by_cases c2 : sc (-z) > s
      · simp only [if_pos c2]
        have := bsR_ge sc m (z + 1) (-z) (sc (-z)) rfl
        omega
      · simp only [if_neg c2]
        exact bsR_ge sc m (z + 1) b s h
theorem be_cases (F : Int → Int) (cc : Int) : (50 ≤ beF F cc ∧ scF F cc 0 0 ≤ scF F cc (sigO (beF F cc - 100) 1) 1 ∧ -6 ≤ beF F cc - 100 - 3 * 1 ∧ beF F cc - 100 - 3 * 1 ≤ 6) ∨ (¬ 50 ≤ beF F cc ∧ scF F cc 0 0 ≤ scF F cc (sigO (beF F cc) 0) 0 ∧ -6 ≤ beF F cc - 3 * 0 ∧ beF F cc - 3 * 0 ≤ 6) := by
  have b0 := bsF_b F cc 0
  have b1 := bsF_b F cc 1
  have g0 : scF F cc 0 0 ≤ scF F cc (bsF F cc 0) 0 := bsR_ge (fun z => scF F cc z 0) 6 1 0 (scF F cc 0 0) rfl
  have t1 : tonO (bsF F cc 1) 1 = bsF F cc 1 + 3 := if_neg (by decide)
  have t0 : tonO (bsF F cc 0) 0 = bsF F cc 0 := if_pos rfl
  have s1 : ∀ x : Int, sigO x 1 = x - 3 := fun x => if_neg (by decide)
  have s0 : ∀ x : Int, sigO x 0 = x := fun x => if_pos rfl
  by_cases c : scF F cc (bsF F cc 1) 1 > scF F cc (bsF F cc 0) 0
  · have e : beF F cc = 100 + tonO (bsF F cc 1) 1 := if_pos c
    rw [t1] at e
    left
    refine ⟨by omega, ?_, by omega, by omega⟩
    rw [s1, show beF F cc - 100 - 3 = bsF F cc 1 by omega]
    omega
  · have e : beF F cc = tonO (bsF F cc 0) 0 := if_neg c
    rw [t0] at e
    right
    refine ⟨by omega, ?_, by omega, by omega⟩
    rw [s0, e]
    exact g0
theorem zand_bit {a : Int} (b : Int) (h : 0 ≤ a ∧ a < 4096) (k : Nat) (hk : Nat.testBit (zand a b).toNat k = true) : Nat.testBit a.toNat k = true := by
  have e1 : (Int32.ofInt a).toInt = a := zin_t ⟨by omega, by omega⟩
  have e2 : ((Int32.ofInt a).toBitVec.toNat : Int) = a := by
    have h3 : (Int32.ofInt a).toInt = (Int32.ofInt a).toBitVec.toInt := rfl
    rw [BitVec.toInt_eq_toNat_cond] at h3
    have h4 := (Int32.ofInt a).toBitVec.isLt
    split at h3 <;> omega
  have e3 : ((Int32.ofInt a &&& Int32.ofInt b).toBitVec).toNat ≤ (Int32.ofInt a).toBitVec.toNat := by
    rw [Int32.toBitVec_and, BitVec.toNat_and]
    exact Nat.and_le_left
  have e4 : (zand a b).toNat = ((Int32.ofInt a &&& Int32.ofInt b).toBitVec).toNat := by
    unfold zand
    have h3 : (Int32.ofInt a &&& Int32.ofInt b).toInt = (Int32.ofInt a &&& Int32.ofInt b).toBitVec.toInt := rfl
    rw [BitVec.toInt_eq_toNat_cond] at h3
    split at h3 <;> omega
  rw [e4, Int32.toBitVec_and, BitVec.toNat_and, Nat.testBit_and, Bool.and_eq_true] at hk
  have h5 := hk.1
  rwa [show (Int32.ofInt a).toBitVec.toNat = a.toNat by omega] at h5
theorem zpop_le {m n : Nat} (h : ∀ k, Nat.testBit m k = true → Nat.testBit n k = true) : zpop m ≤ zpop n := by
  unfold zpop
  rw [← List.countP_eq_length_filter, ← List.countP_eq_length_filter]
  exact List.countP_mono_left (fun x _ hx => h x hx)
theorem tone6_all : (List.range 10).all (fun q => (List.range 12).all fun r => (List.range 13).all fun b => let x := if b = 12 then zrs (zTones.getD q 0) r else zor (zrs (zTones.getD q 0) r) (zshl 1 b); decide (zpop x.toNat ≤ 6)) = true := by decide +kernel
theorem tone6 {r q b : Int} (hq : 0 ≤ q ∧ q < 10) : zpop (toneF r q b).toNat ≤ 6 := by
  have hr := pcl_b r
  have hb := pcl_b b
  have h1 := List.all_eq_true.mp (List.all_eq_true.mp tone6_all q.toNat (List.mem_range.mpr (by omega))) (pcl r).toNat (List.mem_range.mpr (by omega))
  have hR : (((pcl r).toNat : Nat) : Int) = pcl r := Int.toNat_of_nonneg hr.1
  have hB : (((pcl b).toNat : Nat) : Int) = pcl b := Int.toNat_of_nonneg hb.1
  unfold toneF
  split
  · have h2 := List.all_eq_true.mp h1 12 (by decide)
    simp only [if_pos, hR, decide_eq_true_eq] at h2
    exact h2
  · have h2 := List.all_eq_true.mp h1 (pcl b).toNat (List.mem_range.mpr (by omega))
    rw [if_neg (show ¬ (pcl b).toNat = 12 by omega)] at h2
    simp only [hR, hB, decide_eq_true_eq] at h2
    exact h2
theorem common6 {r q b : Int} (x : Int) (hq : 0 ≤ q ∧ q < 10) : 0 ≤ ((zpop (zand (toneF r q b) x).toNat : Nat) : Int) ∧ ((zpop (zand (toneF r q b) x).toNat : Nat) : Int) ≤ 6 := by
  have h1 : zpop (zand (toneF r q b) x).toNat ≤ zpop (toneF r q b).toNat := zpop_le (fun k hk => zand_bit x (toneF_b hq) k hk)
  have h2 := tone6 (r := r) (b := b) hq
  omega
theorem plf_p (lo : Int) {pc : Int} (h : 0 ≤ pc ∧ pc < 12) : pcl (plf lo pc) = pc := by unfold pcl plf; omega
theorem spl_p {pc : Int} (sg si : Int) (h : 0 ≤ pc ∧ pc < 12) : pcl (spl pc sg si) = pc := by
  unfold spl
  split
  · exact plf_p _ h
  · exact plf_p _ h
def spV (se sg si p : Int) : Int := if p = 100 then 100 else spP p se sg si
theorem spP_p (p se sg si : Int) : pcl (spP p se sg si) = (7 * p + se) % 12 := spl_p sg si (by omega)
theorem spP_b (p se : Int) {sg : Int} (si : Int) (hs : -6 ≤ sg ∧ sg ≤ 6) : -9 ≤ spP p se sg si ∧ spP p se sg si ≤ 14 := spl_b hs
theorem spP_i (p se sg si : Int) : spP (spP p se sg si) 0 sg si = spP p se sg si := by
  have h := spP_p p se sg si
  have e : (7 * spP p se sg si + 0) % 12 = (7 * p + se) % 12 := by unfold pcl at h; omega
  have e2 : spP (spP p se sg si) 0 sg si = spl ((7 * spP p se sg si + 0) % 12) sg si := rfl
  rw [e2, e]
  rfl
theorem spV_i (p se : Int) {sg : Int} (si : Int) (hs : -6 ≤ sg ∧ sg ≤ 6) : spV 0 sg si (spV se sg si p) = spV se sg si p := by
  unfold spV
  by_cases c : p = 100
  · rw [if_pos c, if_pos rfl]
  · have h := spP_b p se si hs
    rw [if_neg c, if_neg (by omega)]
    exact spP_i p se sg si
theorem spU_e (F : Int → Int) (k se sg si j : Int) : spU F k se sg si j = if j = k then spV se sg si (F j) else F j := by
  unfold spU spV
  by_cases c2 : F k = 100
  · rw [if_pos c2]
    by_cases c : j = k
    · rw [if_pos c, c, if_pos c2]; exact c2
    · rw [if_neg c]
  · rw [if_neg c2]
    unfold zup
    by_cases c : j = k
    · rw [if_pos c, if_pos c, c, if_neg c2]
    · rw [if_neg c, if_neg c]
theorem spI_e (F : Int → Int) (i se sg si j : Int) : spI F i se sg si j = if j = i * 5 + 2 ∨ j = i * 5 + 4 then spV se sg si (F j) else F j := by
  unfold spI
  rw [spU_e, spU_e]
  by_cases c : j = i * 5 + 4
  · rw [if_pos c, if_pos (Or.inr c), if_neg (by omega)]
  · rw [if_neg c]
    by_cases c2 : j = i * 5 + 2
    · rw [if_pos c2, if_pos (Or.inl c2)]
    · rw [if_neg c2, if_neg (by omega)]
theorem spR_e (se sg si : Int) : ∀ (m : Nat) (i n : Int) (F : Int → Int) (j : Int), (spR se sg si m i n F).2 j = if i * 5 ≤ j ∧ j < (i + m) * 5 ∧ (j % 5 = 2 ∨ j % 5 = 4) then spV se sg si (F j) else F j
  | 0, i, n, F, j => by
    rw [spR, if_neg (by omega)]
  | m + 1, i, n, F, j => by
    rw [spR, spR_e se sg si m, spI_e]
    by_cases c1 : (i + 1) * 5 ≤ j ∧ j < (i + 1 + m) * 5 ∧ (j % 5 = 2 ∨ j % 5 = 4)
    · rw [if_pos c1, if_neg (show ¬ (j = i * 5 + 2 ∨ j = i * 5 + 4) by omega), if_pos (by omega)]
    · rw [if_neg c1]
      by_cases c2 : j = i * 5 + 2 ∨ j = i * 5 + 4
      · rw [if_pos c2, if_pos (by omega)]
      · rw [if_neg c2, if_neg (by omega)]
theorem spC_0 {sg si p : Int} (h : spV 0 sg si p = p) : spC p 0 sg si = 0 := by
  unfold spV at h
  unfold spC
  by_cases c : p = 100
  · rw [if_pos c]
  · rw [if_neg c] at h ⊢
    rw [if_pos h]
theorem spR_0 (sg si : Int) : ∀ (m : Nat) (i n : Int) (F : Int → Int), (∀ j : Int, i * 5 ≤ j → j < (i + m) * 5 → (j % 5 = 2 ∨ j % 5 = 4) → spV 0 sg si (F j) = F j) → (spR 0 sg si m i n F).1 = n
  | 0, i, n, F, h => by rw [spR]
  | m + 1, i, n, F, h => by
    have h2 := h (i * 5 + 2) (by omega) (by omega) (by omega)
    have h4 := h (i * 5 + 4) (by omega) (by omega) (by omega)
    have e2 : spU F (i * 5 + 2) 0 sg si = F := by
      funext j
      rw [spU_e]
      split
      · rename_i c; rw [c]; exact h2
      · rfl
    have e4 : spU F (i * 5 + 4) 0 sg si = F := by
      funext j
      rw [spU_e]
      split
      · rename_i c; rw [c]; exact h4
      · rfl
    have e3 : spI F i 0 sg si = F := by
      unfold spI
      rw [e2, e4]
    rw [spR, e2, e3, spC_0 h2, spC_0 h4, show n + 0 + 0 = n by omega]
    exact spR_0 sg si m (i + 1) n F (fun j j0 j1 j2 => h j (by omega) (by omega) j2)
theorem spC_b (p se sg si : Int) : 0 ≤ spC p se sg si ∧ spC p se sg si ≤ 1 := by
  unfold spC
  (repeat' split) <;> omega
theorem spR_n (se sg si : Int) : ∀ (m : Nat) (i n : Int) (F : Int → Int), n ≤ (spR se sg si m i n F).1 ∧ (spR se sg si m i n F).1 ≤ n + 2 * m
  | 0, i, n, F => by rw [spR]; dsimp only; omega
  | m + 1, i, n, F => by
    have h1 := spC_b (F (i * 5 + 2)) se sg si
    have h2 := spC_b (spU F (i * 5 + 2) se sg si (i * 5 + 4)) se sg si
    have h3 := spR_n se sg si m (i + 1) (n + spC (F (i * 5 + 2)) se sg si + spC (spU F (i * 5 + 2) se sg si (i * 5 + 4)) se sg si) (spI F i se sg si)
    rw [spR]
    omega
theorem sm_all : (List.range 2).all (fun mn => (List.range 2).all fun fl => (List.range 12).all fun tp => decide (pcl (tonO (smS tp mn fl) mn) = tp)) = true := by decide +kernel
theorem smS_p {tp mn fl : Int} (hp : 0 ≤ tp ∧ tp < 12) (hm : mn = 0 ∨ mn = 1) (hf : fl = 0 ∨ fl = 1) : pcl (tonO (smS tp mn fl) mn) = tp := by
  have h1 := of_decide_eq_true (List.all_eq_true.mp (List.all_eq_true.mp (List.all_eq_true.mp sm_all mn.toNat (List.mem_range.mpr (by omega))) fl.toNat (List.mem_range.mpr (by omega))) tp.toNat (List.mem_range.mpr (by omega)))
  rwa [show ((mn.toNat : Nat) : Int) = mn by omega, show ((fl.toNat : Nat) : Int) = fl by omega, show ((tp.toNat : Nat) : Int) = tp by omega] at h1
/-! the fingerprint -/
theorem fpA_cg {g g' : Int → Int} : ∀ (m : Nat) (k f : Int), (∀ j : Int, k ≤ j → j < k + m → g j = g' j) → fpA g m k f = fpA g' m k f
  | 0, k, f, h => rfl
  | m + 1, k, f, h => by
    rw [fpA, fpA, h k (by omega) (by omega)]
    exact fpA_cg m (k + 1) _ (fun j j0 j1 => h j (by omega) (by omega))
theorem fpC_cg {g g' : Int → Int → Int} : ∀ (m : Nat) (i f : Int), (∀ a : Int, i ≤ a → a < i + m → ∀ b : Int, 0 ≤ b → b < 5 → g a b = g' a b) → fpC g m i f = fpC g' m i f
  | 0, i, f, h => rfl
  | m + 1, i, f, h => by
    rw [fpC, fpC, fpA_cg 5 0 f (fun j j0 j1 => h i (by omega) (by omega) j j0 (by omega))]
    exact fpC_cg m (i + 1) _ (fun a a0 a1 => h a (by omega) (by omega))
def fpS (s : zSh) : Int := 31 * (31 * (fpC (fun i f => s.2.2.1 (i * 5 + f)) s.2.2.2.2.1.toNat 0 (fpB (fun l => s.2.1 (l + 1) - s.2.1 l) (ltr s.1 s.2.1) s.2.2.2.1.toNat 0 (31 * 47 + s.2.2.2.1))) + tonO s.2.2.2.2.2.1 s.2.2.2.2.2.2) + (if s.2.2.2.2.2.2 = 0 then 0 else 1)
theorem fpS_F {s : zSh} {F : Int → Int} (h : ∀ j : Int, 0 ≤ j → j < s.2.2.2.2.1 * 5 → F j = s.2.2.1 j) : fpS (sF s F) = fpS s := by
  have e := fpC_cg (g := fun i f => F (i * 5 + f)) (g' := fun i f => s.2.2.1 (i * 5 + f)) s.2.2.2.2.1.toNat 0 (fpB (fun l => s.2.1 (l + 1) - s.2.1 l) (ltr s.1 s.2.1) s.2.2.2.1.toNat 0 (31 * 47 + s.2.2.2.1)) (fun a a0 a1 b b0 b1 => h _ (by omega) (by omega))
  show 31 * (31 * (fpC (fun i f => F (i * 5 + f)) s.2.2.2.2.1.toNat 0 (fpB (fun l => s.2.1 (l + 1) - s.2.1 l) (ltr s.1 s.2.1) s.2.2.2.1.toNat 0 (31 * 47 + s.2.2.2.1))) + tonO s.2.2.2.2.2.1 s.2.2.2.2.2.2) + (if s.2.2.2.2.2.2 = 0 then 0 else 1) = _
  rw [e]
  rfl
