/-! the reference: rows laid -/
/-- the same letters as far as they go -/
def Req (r r' : zRw) : Prop := r.1 = r'.1 ∧ ∀ j : Int, 0 ≤ j → j < r.1 → r.2 j = r'.2 j
theorem Req_rA {r r' : zRw} (h : Req r r') (c : Int) : Req (rA r c) (rA r' c) := by
  refine ⟨congrArg (· + 1) h.1, ?_⟩
  intro j j0 j1
  have j1 : j < r.1 + 1 := j1
  show zup r.2 r.1 c j = zup r'.2 r'.1 c j
  rw [← h.1]
  by_cases hj : j = r.1
  · rw [hj, zup9_eq, zup9_eq]
  · rw [zup9_ne hj, zup9_ne hj]
    exact h.2 j j0 (by omega)
theorem Req_rL {r r' : zRw} (h : Req r r') : ∀ l : List Int, Req (rL r l) (rL r' l)
  | [] => h
  | c :: l => by
    show Req (rL (rA r c) l) (rL (rA r' c) l)
    exact Req_rL (Req_rA h c) l
theorem Req_refl (r : zRw) : Req r r := ⟨rfl, fun _ _ _ => rfl⟩
theorem Req_symm {r r' : zRw} (h : Req r r') : Req r' r := ⟨h.1.symm, fun j j0 j1 => (h.2 j j0 (by have := h.1; omega)).symm⟩
theorem Req_trans {r r' r'' : zRw} (h : Req r r') (h2 : Req r' r'') : Req r r'' := ⟨h.1.trans h2.1, fun j j0 j1 => (h.2 j j0 j1).trans (h2.2 j j0 (by have := h.1; omega))⟩
abbrev zX3 : Type := zRw × zRw × zRw
set_option maxRecDepth 10000 in
set_option maxHeartbeats 1000000 in
theorem l_lcA (v pa : Int → Int) (sn : Int) (tx : Int → Int) (ty si fl wi th ap nt rr rq rb wh : Int) (md : Int → Int) (i x4 n9 l k : Int) (hx4 : x4 = 0 ∨ x4 = 1) (a c R : zRw) (ha : 0 ≤ a.1 ∧ a.1 ≤ 1000) {Post : zP → List zE → Prop} (kk : Wa q_X10_laysChords 3 0 0 10 Post 146 [(5, zI i), (4, zI x4), (3, zI n9), (0, zR 0), (1, zI l), (2, zI k)] [] (wM v pa sn tx ty si fl wi th ap nt rr rq rb wh md c.2 c.1 a.2 R.2 a.1 R.1) 0 0) : ∀ (m : Nat) (b : zRw), (0 ≤ b.1 ∧ b.1 + m ≤ 1100) → m = (if 0 < a.1 then (a.1 + 1 - b.1).toNat else 0) → rL b (List.replicate m (if x4 = 0 then 32 else 45)) = R → Wa q_X10_laysChords 3 0 0 10 Post 92 [(5, zI i), (4, zI x4), (3, zI n9), (0, zR 0), (1, zI l), (2, zI k)] [] (wM v pa sn tx ty si fl wi th ap nt rr rq rb wh md c.2 c.1 a.2 b.2 a.1 b.1) 0 0 := by
  intro m
  induction m with
  | zero =>
    intro b hb hm hR
    subst hR
    have hm2 : ¬ (0 < a.1 ∧ b.1 < a.1 + 1) := by
      rintro ⟨h1, h2⟩
      rw [if_pos h1] at hm
      omega
    refine wa_aload_n (pc' := 93) dX10_laysChords_92 rfl rfl rfl ?_
    refine wa_getfield (pc' := 96) (j := 22) zc_X10 lk_X10_200 dX10_laysChords_93 rfl (by decide) rfl rfl ?_
    refine wa_if_le (tgt := 146) (pc' := 99) dX10_laysChords_96 (by decide) rfl (by omega) (fun c96 => ?_) (fun c96 => ?_)
    · exact kk
    · refine wa_aload_n (pc' := 100) dX10_laysChords_99 rfl rfl rfl ?_
      refine wa_getfield (pc' := 103) (j := 23) zc_X10 lk_X10_203 dX10_laysChords_100 rfl (by decide) rfl rfl ?_
      refine wa_aload_n (pc' := 104) dX10_laysChords_103 rfl rfl rfl ?_
      refine wa_getfield (pc' := 107) (j := 22) zc_X10 lk_X10_200 dX10_laysChords_104 rfl (by decide) rfl rfl ?_
      refine wa_iconst (pc' := 108) dX10_laysChords_107 rfl ?_
      refine wa_iadd (pc' := 109) dX10_laysChords_108 rfl ?_
      refine wa_icmp_ge (tgt := 146) (pc' := 112) dX10_laysChords_109 (by decide) rfl (by omega) (by omega) (fun c109 => ?_) (fun c109 => ?_)
      · exact kk
      · exact absurd ⟨by omega, by omega⟩ hm2
  | succ m ih =>
    intro b hb hm hR
    have hm2 : 0 < a.1 ∧ b.1 + m + 1 = a.1 + 1 := by
      by_cases h1 : 0 < a.1
      · rw [if_pos h1] at hm; omega
      · rw [if_neg h1] at hm; omega
    have ih9 := ih (rA b (if x4 = 0 then 32 else 45)) ⟨by show 0 ≤ b.1 + 1; omega, by show b.1 + 1 + _ ≤ 1100; omega⟩ (by rw [if_pos hm2.1]; show m = (a.1 + 1 - (b.1 + 1)).toNat; omega) (by rw [← hR]; rfl)
    refine wa_aload_n (pc' := 93) dX10_laysChords_92 rfl rfl rfl ?_
    refine wa_getfield (pc' := 96) (j := 22) zc_X10 lk_X10_200 dX10_laysChords_93 rfl (by decide) rfl rfl ?_
    refine wa_if_le (tgt := 146) (pc' := 99) dX10_laysChords_96 (by decide) rfl (by omega) (fun c96 => ?_) (fun c96 => ?_)
    · exact absurd c96 (by omega)
    · refine wa_aload_n (pc' := 100) dX10_laysChords_99 rfl rfl rfl ?_
      refine wa_getfield (pc' := 103) (j := 23) zc_X10 lk_X10_203 dX10_laysChords_100 rfl (by decide) rfl rfl ?_
      refine wa_aload_n (pc' := 104) dX10_laysChords_103 rfl rfl rfl ?_
      refine wa_getfield (pc' := 107) (j := 22) zc_X10 lk_X10_200 dX10_laysChords_104 rfl (by decide) rfl rfl ?_
      refine wa_iconst (pc' := 108) dX10_laysChords_107 rfl ?_
      refine wa_iadd (pc' := 109) dX10_laysChords_108 rfl ?_
      refine wa_icmp_ge (tgt := 146) (pc' := 112) dX10_laysChords_109 (by decide) rfl (by omega) (by omega) (fun c109 => ?_) (fun c109 => ?_)
      · exact absurd c109 (by omega)
      · refine wa_aload_n (pc' := 113) dX10_laysChords_112 rfl rfl rfl ?_
        refine wa_getfield (pc' := 116) (j := 21) zc_X10 lk_X10_43 dX10_laysChords_113 rfl (by decide) rfl rfl ?_
        refine wa_aload_n (pc' := 117) dX10_laysChords_116 rfl rfl rfl ?_
        refine wa_getfield (pc' := 120) (j := 23) zc_X10 lk_X10_203 dX10_laysChords_117 rfl (by decide) rfl rfl ?_
        refine wa_join (J := 132) (P := fun x => x = (if x4 = 0 then 32 else 45)) (fun x132 e132 => ?_) (fun K132 => ?_)
        · subst e132
          refine wa_iastore (pc' := 133) (w' := [_, _, _, _, _, _, _, _, _, zA _ _ _]) dX10_laysChords_132 rfl rfl (by omega) (by omega) (by decide) rfl ?_
          refine wa_aload_n (pc' := 134) dX10_laysChords_133 rfl rfl rfl ?_
          refine wa_dup (pc' := 135) dX10_laysChords_134 rfl rfl ?_
          refine wa_getfield (pc' := 138) (j := 23) zc_X10 lk_X10_203 dX10_laysChords_135 rfl (by decide) rfl rfl ?_
          refine wa_iconst (pc' := 139) dX10_laysChords_138 rfl ?_
          refine wa_iadd (pc' := 140) dX10_laysChords_139 rfl ?_
          refine wa_putfield (pc' := 143) (j := 23) (w' := [zO _ [_, _, _, _, _, _, _, _, _, _, _, _, _, _, _, _, _, _, _, _, _, _, _, _], _, _, _, _, _, _, _, _, _]) zc_X10 lk_X10_203 dX10_laysChords_140 rfl (by decide) rfl rfl (Nat.le_of_ble_eq_true rfl) True.intro rfl ?_
          refine wa_goto (pc' := 92) dX10_laysChords_143 (by decide) ?_
          exact ih9
        · refine wa_iload (pc' := 122) dX10_laysChords_120 rfl rfl ?_
          refine wa_if_eq (tgt := 130) (pc' := 125) dX10_laysChords_122 (by decide) rfl (by omega) (fun c122 => ?_) (fun c122 => ?_)
          · refine wa_bipush (pc' := 132) dX10_laysChords_130 rfl rfl ?_
            exact K132 _ (by show _ = _; first | (exfalso; omega) | rw [if_pos (by omega)] | rw [if_neg (by omega)])
          · refine wa_bipush (pc' := 127) dX10_laysChords_125 rfl rfl ?_
            refine wa_goto (pc' := 132) dX10_laysChords_127 (by decide) ?_
            exact K132 _ (by show _ = _; first | (exfalso; omega) | rw [if_pos (by omega)] | rw [if_neg (by omega)])

set_option maxRecDepth 10000 in
set_option maxHeartbeats 1000000 in
theorem l_lcB (v pa : Int → Int) (sn : Int) (tx : Int → Int) (ty si fl wi th ap nt rr rq rb wh : Int) (md : Int → Int) (i x4 n9 l k : Int) (b c R : zRw) (hb : 0 ≤ b.1 ∧ b.1 ≤ 1000) {Post : zP → List zE → Prop} (kk : Wa q_X10_laysChords 3 0 0 10 Post 181 [(5, zI i), (4, zI x4), (3, zI n9), (0, zR 0), (1, zI l), (2, zI k)] [] (wM v pa sn tx ty si fl wi th ap nt rr rq rb wh md c.2 c.1 R.2 b.2 R.1 b.1) 0 0) : ∀ (m : Nat) (a : zRw), (0 ≤ a.1 ∧ a.1 + m ≤ 1100) → m = (b.1 - a.1).toNat → rL a (List.replicate m 32) = R → Wa q_X10_laysChords 3 0 0 10 Post 146 [(5, zI i), (4, zI x4), (3, zI n9), (0, zR 0), (1, zI l), (2, zI k)] [] (wM v pa sn tx ty si fl wi th ap nt rr rq rb wh md c.2 c.1 a.2 b.2 a.1 b.1) 0 0 := by
  intro m
  induction m with
  | zero =>
    intro a ha hm hR
    subst hR
    refine wa_aload_n (pc' := 147) dX10_laysChords_146 rfl rfl rfl ?_
    refine wa_getfield (pc' := 150) (j := 22) zc_X10 lk_X10_200 dX10_laysChords_147 rfl (by decide) rfl rfl ?_
    refine wa_aload_n (pc' := 151) dX10_laysChords_150 rfl rfl rfl ?_
    refine wa_getfield (pc' := 154) (j := 23) zc_X10 lk_X10_203 dX10_laysChords_151 rfl (by decide) rfl rfl ?_
    refine wa_icmp_ge (tgt := 181) (pc' := 157) dX10_laysChords_154 (by decide) rfl (by omega) (by omega) (fun c154 => ?_) (fun c154 => ?_)
    · exact kk
    · exact absurd c154 (by omega)
  | succ m ih =>
    intro a ha hm hR
    have ih9 := ih (rA a 32) ⟨by show 0 ≤ a.1 + 1; omega, by show a.1 + 1 + _ ≤ 1100; omega⟩ (by show m = (b.1 - (a.1 + 1)).toNat; omega) (by rw [← hR]; rfl)
    refine wa_aload_n (pc' := 147) dX10_laysChords_146 rfl rfl rfl ?_
    refine wa_getfield (pc' := 150) (j := 22) zc_X10 lk_X10_200 dX10_laysChords_147 rfl (by decide) rfl rfl ?_
    refine wa_aload_n (pc' := 151) dX10_laysChords_150 rfl rfl rfl ?_
    refine wa_getfield (pc' := 154) (j := 23) zc_X10 lk_X10_203 dX10_laysChords_151 rfl (by decide) rfl rfl ?_
    refine wa_icmp_ge (tgt := 181) (pc' := 157) dX10_laysChords_154 (by decide) rfl (by omega) (by omega) (fun c154 => ?_) (fun c154 => ?_)
    · exact absurd c154 (by omega)
    · refine wa_aload_n (pc' := 158) dX10_laysChords_157 rfl rfl rfl ?_
      refine wa_getfield (pc' := 161) (j := 20) zc_X10 lk_X10_40 dX10_laysChords_158 rfl (by decide) rfl rfl ?_
      refine wa_aload_n (pc' := 162) dX10_laysChords_161 rfl rfl rfl ?_
      refine wa_getfield (pc' := 165) (j := 22) zc_X10 lk_X10_200 dX10_laysChords_162 rfl (by decide) rfl rfl ?_
      refine wa_bipush (pc' := 167) dX10_laysChords_165 rfl rfl ?_
      refine wa_iastore (pc' := 168) (w' := [_, _, _, _, _, _, _, _, zA _ _ _, _]) dX10_laysChords_167 rfl rfl (by omega) (by omega) (by decide) rfl ?_
      refine wa_aload_n (pc' := 169) dX10_laysChords_168 rfl rfl rfl ?_
      refine wa_dup (pc' := 170) dX10_laysChords_169 rfl rfl ?_
      refine wa_getfield (pc' := 173) (j := 22) zc_X10 lk_X10_200 dX10_laysChords_170 rfl (by decide) rfl rfl ?_
      refine wa_iconst (pc' := 174) dX10_laysChords_173 rfl ?_
      refine wa_iadd (pc' := 175) dX10_laysChords_174 rfl ?_
      refine wa_putfield (pc' := 178) (j := 22) (w' := [zO _ [_, _, _, _, _, _, _, _, _, _, _, _, _, _, _, _, _, _, _, _, _, _, _, _], _, _, _, _, _, _, _, _, _]) zc_X10 lk_X10_200 dX10_laysChords_175 rfl (by decide) rfl rfl (Nat.le_of_ble_eq_true rfl) True.intro rfl ?_
      refine wa_goto (pc' := 146) dX10_laysChords_178 (by decide) ?_
      exact ih9

set_option maxRecDepth 10000 in
set_option maxHeartbeats 1000000 in
theorem l_lcC (v pa : Int → Int) (sn : Int) (tx : Int → Int) (ty si fl wi th ap nt rr rq rb wh : Int) (md : Int → Int) (i x4 n9 l k : Int) (b c R : zRw) (L9 : List Int) (hc : c.1 = L9.length) (hcl : ∀ j : Nat, j < L9.length → c.2 j = L9.getD j 0) (hl20 : L9.length ≤ 20) {Post : zP → List zE → Prop} (kk : Wa q_X10_laysChords 3 0 0 10 Post 231 [(5, zI i), (4, zI x4), (3, zI n9), (0, zR 0), (1, zI l), (2, zI k)] [] (wM v pa sn tx ty si fl wi th ap nt rr rq rb wh md c.2 c.1 R.2 b.2 R.1 b.1) 0 0) : ∀ (m j : Nat) (a : zRw), (0 ≤ a.1 ∧ a.1 + m ≤ 1100) → j + m = L9.length → rL a (L9.drop j) = R → Wa q_X10_laysChords 3 0 0 10 Post 190 [(6, zI (j : Int)), (5, zI i), (4, zI x4), (3, zI n9), (0, zR 0), (1, zI l), (2, zI k)] [] (wM v pa sn tx ty si fl wi th ap nt rr rq rb wh md c.2 c.1 a.2 b.2 a.1 b.1) 0 0 := by
  intro m
  induction m with
  | zero =>
    intro j a ha hm hR
    rw [List.drop_eq_nil_of_le (by omega)] at hR
    have hR2 : a = R := hR
    subst hR2
    refine wa_iload (pc' := 192) dX10_laysChords_190 rfl rfl ?_
    refine wa_aload_n (pc' := 193) dX10_laysChords_192 rfl rfl rfl ?_
    refine wa_getfield (pc' := 196) (j := 19) zc_X10 lk_X10_133 dX10_laysChords_193 rfl (by decide) rfl rfl ?_
    refine wa_icmp_ge (tgt := 231) (pc' := 199) dX10_laysChords_196 (by decide) rfl (by omega) (by omega) (fun c196 => ?_) (fun c196 => ?_)
    · refine wa_sub [1, 2, 3, 4, 5, 6] rfl ?_
      exact kk
    · exact absurd c196 (by omega)
  | succ m ih =>
    intro j a ha hm hR
    have e9 := hcl j (by omega)
    rw [drop_getD _ _ (show j < L9.length by omega), ← e9] at hR
    have ih9 := ih (j + 1) (rA a (c.2 j)) ⟨by show 0 ≤ a.1 + 1; omega, by show a.1 + 1 + _ ≤ 1100; omega⟩ (by omega) (by rw [← hR]; rfl)
    refine wa_iload (pc' := 192) dX10_laysChords_190 rfl rfl ?_
    refine wa_aload_n (pc' := 193) dX10_laysChords_192 rfl rfl rfl ?_
    refine wa_getfield (pc' := 196) (j := 19) zc_X10 lk_X10_133 dX10_laysChords_193 rfl (by decide) rfl rfl ?_
    refine wa_icmp_ge (tgt := 231) (pc' := 199) dX10_laysChords_196 (by decide) rfl (by omega) (by omega) (fun c196 => ?_) (fun c196 => ?_)
    · exact absurd c196 (by omega)
    · refine wa_aload_n (pc' := 200) dX10_laysChords_199 rfl rfl rfl ?_
      refine wa_getfield (pc' := 203) (j := 20) zc_X10 lk_X10_40 dX10_laysChords_200 rfl (by decide) rfl rfl ?_
      refine wa_aload_n (pc' := 204) dX10_laysChords_203 rfl rfl rfl ?_
      refine wa_getfield (pc' := 207) (j := 22) zc_X10 lk_X10_200 dX10_laysChords_204 rfl (by decide) rfl rfl ?_
      refine wa_aload_n (pc' := 208) dX10_laysChords_207 rfl rfl rfl ?_
      refine wa_getfield (pc' := 211) (j := 18) zc_X10 lk_X10_37 dX10_laysChords_208 rfl (by decide) rfl rfl ?_
      refine wa_iload (pc' := 213) dX10_laysChords_211 rfl rfl ?_
      refine wa_iaload (pc' := 214) dX10_laysChords_213 rfl rfl (by omega) (by omega) (by decide) ?_
      refine wa_iastore (pc' := 215) (w' := [_, _, _, _, _, _, _, _, zA _ _ _, _]) dX10_laysChords_214 rfl rfl (by omega) (by omega) (by decide) rfl ?_
      refine wa_aload_n (pc' := 216) dX10_laysChords_215 rfl rfl rfl ?_
      refine wa_dup (pc' := 217) dX10_laysChords_216 rfl rfl ?_
      refine wa_getfield (pc' := 220) (j := 22) zc_X10 lk_X10_200 dX10_laysChords_217 rfl (by decide) rfl rfl ?_
      refine wa_iconst (pc' := 221) dX10_laysChords_220 rfl ?_
      refine wa_iadd (pc' := 222) dX10_laysChords_221 rfl ?_
      refine wa_putfield (pc' := 225) (j := 22) (w' := [zO _ [_, _, _, _, _, _, _, _, _, _, _, _, _, _, _, _, _, _, _, _, _, _, _, _], _, _, _, _, _, _, _, _, _]) zc_X10 lk_X10_200 dX10_laysChords_222 rfl (by decide) rfl rfl (Nat.le_of_ble_eq_true rfl) True.intro rfl ?_
      refine wa_iinc (pc' := 228) (ls' := [(6, _), (5, _), (4, _), (3, _), (0, _), (1, _), (2, _)]) dX10_laysChords_225 rfl rfl (by decide) rfl ?_
      refine wa_goto (pc' := 190) dX10_laysChords_228 (by decide) ?_
      exact ih9

set_option maxRecDepth 10000 in
set_option maxHeartbeats 1000000 in
theorem l_lc (s : zSh) (v pa : Int → Int) (sn : Int) (tx : Int → Int) (ty si fl wi th ap nt rr rq rb wh : Int) (md : Int → Int) (x4 n9 l k : Int) (hx4 : x4 = 0 ∨ x4 = 1) (hk : 0 ≤ k ∧ k ≤ 200) (hl0 : zin l) (hs : okW s) (hv : Vr s v) (R : zLy) : ∀ (m : Nat) (i : Int) (a b c : zRw) (y : zLy) (mf : Nat), 0 ≤ i → i + m = s.2.2.2.2.1 → Req a y.1 → Req b y.2.1 → okY s k y → y.2.2.1 = l → (∀ j : Int, i ≤ j → j < s.2.2.2.2.1 → (s.2.2.1 (j * 5 + 0) = l ∧ s.2.2.1 (j * 5 + 1) = k) → y.2.2.2.2.2.1 ≤ j) → (y.2.2.2.2.2.1 < i → ¬ (s.2.2.1 (y.2.2.2.2.2.1 * 5 + 0) = l ∧ s.2.2.1 (y.2.2.2.2.2.1 * 5 + 1) = k)) → (y.2.2.2.2.2.1 < i → ∀ j : Int, i ≤ j → j < s.2.2.2.2.1 → ¬ (s.2.2.1 (j * 5 + 0) = l ∧ s.2.2.1 (j * 5 + 1) = k)) → (∀ j : Int, y.2.2.2.2.2.1 ≤ j → j < s.2.2.2.2.1 → ¬ (s.2.2.1 (j * 5 + 0) < l ∨ (s.2.2.1 (j * 5 + 0) = l ∧ s.2.2.1 (j * 5 + 1) < k))) → s.2.2.2.2.1 - y.2.2.2.2.2.1 ≤ mf → plC s k (if x4 = 0 then 32 else 45) mf y = R → Wa q_X10_laysChords 3 0 0 10 (fun o w' => ∃ x : zX3, (Req x.1 R.1 ∧ Req x.2.1 R.2.1) ∧ o = .inl none ∧ w' = (wM v pa sn tx ty si fl wi th ap nt rr rq rb wh md x.2.2.2 x.2.2.1 x.1.2 x.2.1.2 x.1.1 x.2.1.1)) 49 [(5, zI i), (4, zI x4), (3, zI n9), (0, zR 0), (1, zI l), (2, zI k)] [] (wM v pa sn tx ty si fl wi th ap nt rr rq rb wh md c.2 c.1 a.2 b.2 a.1 b.1) 0 0 := by
  obtain ⟨v0, v1, v2, v3, vT, vF, vL⟩ := id hv
  have hz := hs.1
  obtain ⟨z1, z2, zT1, z4, zF1, zL1⟩ := id hz.1
  have zNm := hz.2.1
  have zg := hz.2.2.1
  have zm := hz.2.2.2.1
  have zln := hz.2.2.2.2
  have vS := Vr_sg hv zm
  have zQ1 := fun i h1 h2 => (zNm i h1 h2).2.1
  intro m
  induction m with
  | zero =>
    intro i a b c y mf h0 hm hra hrb hy hln hJ1 hJ3 hJ2 hge hmf hR
    have hR2 : y = R := by
      rw [← hR]
      cases mf with
      | zero => rfl
      | succ mf =>
        rw [plC, if_neg]
        rintro ⟨g1, g2, g3⟩
        exact hJ3 (by omega) ⟨by rw [← hln]; exact g2, g3⟩
    subst hR2
    refine wa_iload (pc' := 51) dX10_laysChords_49 rfl rfl ?_
    refine wa_aload_n (pc' := 52) dX10_laysChords_51 rfl rfl rfl ?_
    refine wa_getfield (pc' := 55) (j := 0) zc_X10 lk_X10_7 dX10_laysChords_52 rfl (by decide) rfl rfl ?_
    refine wa_iconst (pc' := 56) dX10_laysChords_55 rfl ?_
    refine wa_iaload (pc' := 57) dX10_laysChords_56 rfl rfl (by omega) (by omega) (by decide) ?_
    refine wa_icmp_ge (tgt := 237) (pc' := 60) dX10_laysChords_57 (by decide) rfl (by omega) (by omega) (fun c57 => ?_) (fun c57 => ?_)
    · refine wa_vret dX10_laysChords_237 rfl (by decide) (by decide) ?_
      exact ⟨(a, b, c), ⟨hra, hrb⟩, rfl, rfl⟩
    · exact absurd c57 (by omega)
  | succ m ih =>
    intro i a b c y mf h0 hm hra hrb hy hln hJ1 hJ3 hJ2 hge hmf hR
    have f0 := Vr_F hv (i := i) (f := 0) (by omega) (by omega)
    have f1 := Vr_F hv (i := i) (f := 1) (by omega) (by omega)
    have b0 := zF1 (i * 5 + 0) (by omega) (by omega)
    have b1 := zF1 (i * 5 + 1) (by omega) (by omega)
    have skip : ¬ (s.2.2.1 (i * 5 + 0) = l ∧ s.2.2.1 (i * 5 + 1) = k) → Wa q_X10_laysChords 3 0 0 10 (fun o w' => ∃ x : zX3, (Req x.1 R.1 ∧ Req x.2.1 R.2.1) ∧ o = .inl none ∧ w' = (wM v pa sn tx ty si fl wi th ap nt rr rq rb wh md x.2.2.2 x.2.2.1 x.1.2 x.2.1.2 x.1.1 x.2.1.1)) 231 [(5, zI i), (4, zI x4), (3, zI n9), (0, zR 0), (1, zI l), (2, zI k)] [] (wM v pa sn tx ty si fl wi th ap nt rr rq rb wh md c.2 c.1 a.2 b.2 a.1 b.1) 0 0 := by
      intro hno
      refine wa_iinc (pc' := 234) (ls' := [(5, _), (4, _), (3, _), (0, _), (1, _), (2, _)]) dX10_laysChords_231 rfl rfl (by decide) rfl ?_
      refine wa_goto (pc' := 49) dX10_laysChords_234 (by decide) ?_
      refine ih (i + 1) a b c y mf (by omega) (by omega) hra hrb hy hln (fun j j0 j1 j2 => hJ1 j (by omega) j1 j2) ?_ ?_ hge hmf hR
      · intro q1
        by_cases q2 : y.2.2.2.2.2.1 = i
        · rw [q2]; exact hno
        · exact hJ3 (by omega)
      · intro q1 j j0 j1 j2
        by_cases q2 : y.2.2.2.2.2.1 = i
        · have q3 := hge i (by omega) (by omega)
          have q4 := hs.2.2.2.2 i j h0 (by omega) j1
          omega
        · exact hJ2 (by omega) j (by omega) j1 j2
    have take : (s.2.2.1 (i * 5 + 0) = l ∧ s.2.2.1 (i * 5 + 1) = k) → Wa q_X10_laysChords 3 0 0 10 (fun o w' => ∃ x : zX3, (Req x.1 R.1 ∧ Req x.2.1 R.2.1) ∧ o = .inl none ∧ w' = (wM v pa sn tx ty si fl wi th ap nt rr rq rb wh md x.2.2.2 x.2.2.1 x.1.2 x.2.1.2 x.1.1 x.2.1.1)) 92 [(5, zI i), (4, zI x4), (3, zI n9), (0, zR 0), (1, zI l), (2, zI k)] [] (wM v pa sn tx ty si fl wi th ap nt rr rq rb wh md c.2 c.1 a.2 b.2 a.1 b.1) 0 0 := by
      intro hma
      have hch : y.2.2.2.2.2.1 = i := by
        have q1 := hJ1 i (by omega) (by omega) hma
        by_cases q2 : y.2.2.2.2.2.1 < i
        · exact absurd hma (hJ2 q2 i (by omega) (by omega))
        · omega
      obtain ⟨y1, y2, y3, y4⟩ := id hy
      obtain ⟨n1, n2, n3⟩ := zNm i (by omega) (by omega)
      have n4 := nameL_n n1 n2 n3
      have ra1 := hra.1
      have rb1 := hrb.1
      have eB : (rL b (List.replicate (if 0 < a.1 then (a.1 + 1 - b.1).toNat else 0) (if x4 = 0 then 32 else 45))).1 = b.1 + (if 0 < a.1 then (a.1 + 1 - b.1).toNat else 0 : Nat) := rL_rep _ _ _
      have eB2 : b.1 ≤ (rL b (List.replicate (if 0 < a.1 then (a.1 + 1 - b.1).toNat else 0) (if x4 = 0 then 32 else 45))).1 ∧ (rL b (List.replicate (if 0 < a.1 then (a.1 + 1 - b.1).toNat else 0) (if x4 = 0 then 32 else 45))).1 ≤ 693 := by
        rw [eB]; split <;> omega
      have eA : (rL a (List.replicate ((rL b (List.replicate (if 0 < a.1 then (a.1 + 1 - b.1).toNat else 0) (if x4 = 0 then 32 else 45))).1 - a.1).toNat 32)).1 = a.1 + (((rL b (List.replicate (if 0 < a.1 then (a.1 + 1 - b.1).toNat else 0) (if x4 = 0 then 32 else 45))).1 - a.1).toNat : Nat) := rL_rep _ _ _
      have rB : Req (rL b (List.replicate (if 0 < a.1 then (a.1 + 1 - b.1).toNat else 0) (if x4 = 0 then 32 else 45))) (plB y (if x4 = 0 then 32 else 45)) := by
        unfold plB
        rw [← ra1, ← rb1]
        by_cases q : 0 < a.1
        · rw [if_pos q, if_pos q]; exact Req_rL hrb _
        · rw [if_neg q, if_neg q]; exact hrb
      have rA2 : Req (rL (rL a (List.replicate ((rL b (List.replicate (if 0 < a.1 then (a.1 + 1 - b.1).toNat else 0) (if x4 = 0 then 32 else 45))).1 - a.1).toNat 32)) (nameL (s.2.2.1 (i * 5 + 2)) (s.2.2.1 (i * 5 + 3)) (s.2.2.1 (i * 5 + 4)))) (plO s (if x4 = 0 then 32 else 45) y).1 := by
        show Req (rL (rL a (List.replicate ((rL b (List.replicate (if 0 < a.1 then (a.1 + 1 - b.1).toNat else 0) (if x4 = 0 then 32 else 45))).1 - a.1).toNat 32)) (nameL (s.2.2.1 (i * 5 + 2)) (s.2.2.1 (i * 5 + 3)) (s.2.2.1 (i * 5 + 4)))) (rL (rL y.1 (List.replicate ((plB y (if x4 = 0 then 32 else 45)).1 - y.1.1).toNat 32)) (nameL (s.2.2.1 (y.2.2.2.2.2.1 * 5 + 2)) (s.2.2.1 (y.2.2.2.2.2.1 * 5 + 3)) (s.2.2.1 (y.2.2.2.2.2.1 * 5 + 4))))
        rw [hch, ← rB.1, ← ra1]
        exact Req_rL (Req_rL hra _) _
      have hyO := plO_ok (f := (if x4 = 0 then 32 else 45)) hy zNm (by omega)
      refine l_lcA v pa sn tx ty si fl wi th ap nt rr rq rb wh md i x4 n9 l k hx4 a c (rL b (List.replicate (if 0 < a.1 then (a.1 + 1 - b.1).toNat else 0) (if x4 = 0 then 32 else 45))) (by omega) ?_ _ b ⟨by omega, by split <;> omega⟩ rfl rfl
      refine l_lcB v pa sn tx ty si fl wi th ap nt rr rq rb wh md i x4 n9 l k (rL b (List.replicate (if 0 < a.1 then (a.1 + 1 - b.1).toNat else 0) (if x4 = 0 then 32 else 45))) c (rL a (List.replicate ((rL b (List.replicate (if 0 < a.1 then (a.1 + 1 - b.1).toNat else 0) (if x4 = 0 then 32 else 45))).1 - a.1).toNat 32)) (by omega) ?_ _ a ⟨by omega, by omega⟩ rfl rfl
      refine wa_aload_n (pc' := 182) dX10_laysChords_181 rfl rfl rfl ?_
      refine wa_iload (pc' := 184) dX10_laysChords_182 rfl rfl ?_
      refine wa_iD2 (pc' := 187) (st := []) (k_X10_names s _ _ _ _ _ _ _ _ _ _ _ _ _ _ _ _ _ _ _ _ _ _ i hs hv (by omega)) ok_X10_names lm_X10_143 dX10_laysChords_184 rfl (wM_ok _ _ _ _ _ _ _ _ _ _ _ _ _ _ _ _ _ _ _ _ _ _) (Eq.refl 10) (wM_ok _ _ _ _ _ _ _ _ _ _ _ _ _ _ _ _ _ _ _ _ _ _) rfl rfl (Nat.le_of_ble_eq_true rfl) rfl rfl rfl rfl (by decide) (Nat.le_of_ble_eq_true rfl) rfl (by decide) (by decide) rfl rfl ?_
      show Wa _ _ _ _ _ _ _ _ [] _ _ _
      show Wa _ _ _ _ _ _ _ _ [] (wM v pa sn tx ty si fl wi th ap nt rr rq rb wh md ((rL ((0 : Int), c.2) (nameL (s.2.2.1 (i * 5 + 2)) (s.2.2.1 (i * 5 + 3)) (s.2.2.1 (i * 5 + 4)))).2) ((rL ((0 : Int), c.2) (nameL (s.2.2.1 (i * 5 + 2)) (s.2.2.1 (i * 5 + 3)) (s.2.2.1 (i * 5 + 4)))).1) ((rL a (List.replicate ((rL b (List.replicate (if 0 < a.1 then (a.1 + 1 - b.1).toNat else 0) (if x4 = 0 then 32 else 45))).1 - a.1).toNat 32)).2) ((rL b (List.replicate (if 0 < a.1 then (a.1 + 1 - b.1).toNat else 0) (if x4 = 0 then 32 else 45))).2) ((rL a (List.replicate ((rL b (List.replicate (if 0 < a.1 then (a.1 + 1 - b.1).toNat else 0) (if x4 = 0 then 32 else 45))).1 - a.1).toNat 32)).1) ((rL b (List.replicate (if 0 < a.1 then (a.1 + 1 - b.1).toNat else 0) (if x4 = 0 then 32 else 45))).1)) _ _
      refine wa_iconst (pc' := 188) dX10_laysChords_187 rfl ?_
      refine wa_istore (pc' := 190) (ls' := [(6, _), (5, _), (4, _), (3, _), (0, _), (1, _), (2, _)]) dX10_laysChords_188 rfl (by decide) rfl ?_
      refine l_lcC v pa sn tx ty si fl wi th ap nt rr rq rb wh md i x4 n9 l k (rL b (List.replicate (if 0 < a.1 then (a.1 + 1 - b.1).toNat else 0) (if x4 = 0 then 32 else 45))) (rL ((0 : Int), c.2) (nameL (s.2.2.1 (i * 5 + 2)) (s.2.2.1 (i * 5 + 3)) (s.2.2.1 (i * 5 + 4)))) (rL (rL a (List.replicate ((rL b (List.replicate (if 0 < a.1 then (a.1 + 1 - b.1).toNat else 0) (if x4 = 0 then 32 else 45))).1 - a.1).toNat 32)) (nameL (s.2.2.1 (i * 5 + 2)) (s.2.2.1 (i * 5 + 3)) (s.2.2.1 (i * 5 + 4)))) (nameL (s.2.2.1 (i * 5 + 2)) (s.2.2.1 (i * 5 + 3)) (s.2.2.1 (i * 5 + 4))) ((rL_len _ _).trans (Int.zero_add _)) (fun j hj => by have := rL_hi ((0 : Int), c.2) (nameL (s.2.2.1 (i * 5 + 2)) (s.2.2.1 (i * 5 + 3)) (s.2.2.1 (i * 5 + 4))) j hj; rwa [Int.zero_add] at this) (by omega) ?_ (nameL (s.2.2.1 (i * 5 + 2)) (s.2.2.1 (i * 5 + 3)) (s.2.2.1 (i * 5 + 4))).length 0 (rL a (List.replicate ((rL b (List.replicate (if 0 < a.1 then (a.1 + 1 - b.1).toNat else 0) (if x4 = 0 then 32 else 45))).1 - a.1).toNat 32)) ⟨by omega, by omega⟩ (by omega) rfl
      refine wa_iinc (pc' := 234) (ls' := [(5, _), (4, _), (3, _), (0, _), (1, _), (2, _)]) dX10_laysChords_231 rfl rfl (by decide) rfl ?_
      refine wa_goto (pc' := 49) dX10_laysChords_234 (by decide) ?_
      cases mf with
      | zero => exact absurd hmf (by omega)
      | succ mf =>
        rw [plC, if_pos ⟨by omega, by rw [hch, hln]; exact hma.1, by rw [hch]; exact hma.2⟩] at hR
        refine ih (i + 1) (rL (rL a (List.replicate ((rL b (List.replicate (if 0 < a.1 then (a.1 + 1 - b.1).toNat else 0) (if x4 = 0 then 32 else 45))).1 - a.1).toNat 32)) (nameL (s.2.2.1 (i * 5 + 2)) (s.2.2.1 (i * 5 + 3)) (s.2.2.1 (i * 5 + 4)))) (rL b (List.replicate (if 0 < a.1 then (a.1 + 1 - b.1).toNat else 0) (if x4 = 0 then 32 else 45))) (rL ((0 : Int), c.2) (nameL (s.2.2.1 (i * 5 + 2)) (s.2.2.1 (i * 5 + 3)) (s.2.2.1 (i * 5 + 4)))) (plO s (if x4 = 0 then 32 else 45) y) mf (by omega) (by omega) rA2 rB hyO hln ?_ ?_ ?_ ?_ ?_ hR
        · intro j j0 j1 j2; show y.2.2.2.2.2.1 + 1 ≤ j; omega
        · intro q; exact absurd (show y.2.2.2.2.2.1 + 1 < i + 1 from q) (by omega)
        · intro q; exact absurd (show y.2.2.2.2.2.1 + 1 < i + 1 from q) (by omega)
        · intro j j0 j1; exact hge j (by have j0 : y.2.2.2.2.2.1 + 1 ≤ j := j0; omega) j1
        · show s.2.2.2.2.1 - (y.2.2.2.2.2.1 + 1) ≤ mf; omega
    refine wa_iload (pc' := 51) dX10_laysChords_49 rfl rfl ?_
    refine wa_aload_n (pc' := 52) dX10_laysChords_51 rfl rfl rfl ?_
    refine wa_getfield (pc' := 55) (j := 0) zc_X10 lk_X10_7 dX10_laysChords_52 rfl (by decide) rfl rfl ?_
    refine wa_iconst (pc' := 56) dX10_laysChords_55 rfl ?_
    refine wa_iaload (pc' := 57) dX10_laysChords_56 rfl rfl (by omega) (by omega) (by decide) ?_
    refine wa_icmp_ge (tgt := 237) (pc' := 60) dX10_laysChords_57 (by decide) rfl (by omega) (by omega) (fun c57 => ?_) (fun c57 => ?_)
    · exact absurd c57 (by omega)
    · refine wa_aload_n (pc' := 61) dX10_laysChords_60 rfl rfl rfl ?_
      refine wa_getfield (pc' := 64) (j := 0) zc_X10 lk_X10_7 dX10_laysChords_61 rfl (by decide) rfl rfl ?_
      refine wa_iload (pc' := 66) dX10_laysChords_64 rfl rfl ?_
      refine wa_dS (pc' := 69) (w' := [_, _, _, _, _, _, _, _, _, _]) (k_X10_chord i (by omega)) ok_X10_chord lm_X10_94 dX10_laysChords_66 rfl [] rfl (by decide) rfl rfl (by decide) (Nat.le_of_ble_eq_true rfl) rfl (by decide) (by decide) rfl rfl rfl ?_
      refine wa_iconst (pc' := 70) dX10_laysChords_69 rfl ?_
      refine wa_iadd (pc' := 71) dX10_laysChords_70 rfl ?_
      refine wa_iaload (pc' := 72) dX10_laysChords_71 rfl rfl (by omega) (by omega) (by decide) ?_
      rw [f0]
      refine wa_iload_n (pc' := 73) dX10_laysChords_72 rfl rfl rfl ?_
      refine wa_icmp_ne (tgt := 231) (pc' := 76) dX10_laysChords_73 (by decide) rfl (by omega) (by omega) (fun c73 => ?_) (fun c73 => ?_)
      · exact skip (by omega)
      · refine wa_aload_n (pc' := 77) dX10_laysChords_76 rfl rfl rfl ?_
        refine wa_getfield (pc' := 80) (j := 0) zc_X10 lk_X10_7 dX10_laysChords_77 rfl (by decide) rfl rfl ?_
        refine wa_iload (pc' := 82) dX10_laysChords_80 rfl rfl ?_
        refine wa_dS (pc' := 85) (w' := [_, _, _, _, _, _, _, _, _, _]) (k_X10_chord i (by omega)) ok_X10_chord lm_X10_94 dX10_laysChords_82 rfl [] rfl (by decide) rfl rfl (by decide) (Nat.le_of_ble_eq_true rfl) rfl (by decide) (by decide) rfl rfl rfl ?_
        refine wa_iconst (pc' := 86) dX10_laysChords_85 rfl ?_
        refine wa_iadd (pc' := 87) dX10_laysChords_86 rfl ?_
        refine wa_iaload (pc' := 88) dX10_laysChords_87 rfl rfl (by omega) (by omega) (by decide) ?_
        rw [f1]
        refine wa_iload_n (pc' := 89) dX10_laysChords_88 rfl rfl rfl ?_
        refine wa_icmp_ne (tgt := 231) (pc' := 92) dX10_laysChords_89 (by decide) rfl (by omega) (by omega) (fun c89 => ?_) (fun c89 => ?_)
        · exact skip (by omega)
        · exact take (by omega)


