/-! ===== one argument more ===== -/
theorem sp_nil_len {l : List Nat} (h : l.length < 2 ^ 31) : nI l.length = 0 ↔ l = [] := by
  rw [← nI_0, nI_eq h (by decide)]
  exact List.length_eq_zero_iff
theorem sp_asc0 (b : Bool) : ((if b then 1 else 0 : Int32) = 0) ↔ b = false := by cases b <;> simp
theorem sp_last_app {a b : List Nat} (hb : b ≠ []) : (a ++ b).getLastD 0 = b.getLastD 0 := by
  rw [List.getLastD_eq_getLast?, List.getLastD_eq_getLast?, List.getLast?_append]
  cases hc : b.getLast? with
  | none => exact absurd (List.getLast?_eq_none_iff.mp hc) hb
  | some x => rfl
theorem sp_m1 : ¬ (0 : Int32) ≤ -1 := by decide
theorem sp_num {V nu : Nat → Int32} {pa : Nat → Option Nat} {t c n : Nat} {xs : List sp_X} (hok : sp_ok V nu pa t c xs) (hg : sp_g xs) (hl : xs.length < 3) (hn : n ≤ 5) :
    sp_ok (vr_num V (nI n)) (upd nu (V 3).toNatClampNeg (nI n)) (va_up pa (V 3).toNatClampNeg none) t c (xs ++ [.inl n]) := by
  obtain ⟨h0, h2, h3, h6, h7, h8, h9, h10, h11, h12, h15, hnu, hpa⟩ := hok
  obtain ⟨b1, b2, b3, b4⟩ := sp_len_ints hg.2
  have hlen : (sp_ints xs).length ≤ 100 := by omega
  have eI : sp_ints (xs ++ [.inl n]) = sp_ints xs ++ [n] := by rw [sp_ints_app]; rfl
  have eS : sp_size (xs ++ [.inl n]) = sp_size xs := by rw [sp_size_app]; simp [sp_size]
  have eH : sp_hts (xs ++ [.inl n]) = sp_hts xs := by rw [sp_hts_app]; simp [sp_hts]
  have hcl : (V 3).toNatClampNeg = xs.length := by rw [h3]; exact nI_clamp (by omega)
  have hz := sp_nil_len (l := sp_ints xs) (by omega)
  refine ⟨h0, h2, ?_, ?_, ?_, ?_, ?_, ?_, ?_, fun _ => ⟨?_, ?_, ?_⟩, ?_, ?_, ?_⟩
  · show V 3 + 1 = _
    rw [h3, nI_1]; simp
  · show V 6 = _
    rw [eS]; exact h6
  · show V 7 = _
    rw [eH]; exact h7
  · show V 8 = _
    rw [eH]; exact h8
  · show (if 0 ≤ V 9 then V 9 else nI n) = _
    rw [sp_fst_app]
    cases hf : sp_fst xs with
    | none => rw [hf] at h9; rw [h9, if_neg sp_m1]; rfl
    | some m =>
      rw [hf] at h9
      have hm : m < 2 ^ 31 := by
        by_cases hb : m < 2 ^ 31
        · exact hb
        · exfalso
          have : ∀ (ys : List sp_X), (∀ x ∈ ys, sp_gx x) → ∀ m, sp_fst ys = some m → m ≤ 5 := by
            intro ys
            induction ys with
            | nil => intro _ m h; cases h
            | cons y r ih =>
              intro hy m h
              cases y with
              | inl k => cases h; exact hy _ List.mem_cons_self
              | inr q => exact ih (fun x hx => hy x (List.mem_cons_of_mem _ hx)) m h
          have := this xs hg.2 m hf
          omega
      rw [h9, if_pos (nI_pos' hm)]; rfl
  · show V 10 + 1 = _
    rw [h10, nI_1, eI]; simp
  · show V 11 + nI n = _
    rw [h11, nI_add, eI]; simp
  · show (if V 10 = 0 then nI n else (if V 12 ≤ nI n then V 12 else nI n)) = _
    rw [h10, eI]
    by_cases hx : sp_ints xs = []
    · rw [if_pos (hz.mpr hx), hx]; rfl
    · rw [if_neg (fun q => hx (hz.mp q)), (h12 hx).1, sp_min_app hx (by simp)]
      have hm := b2 _ (sp_min_mem hx)
      by_cases hq : sp_min (sp_ints xs) ≤ n
      · rw [if_pos ((nI_leI (by omega) (by omega)).mpr hq)]
        show _ = nI (min _ n)
        rw [Nat.min_eq_left hq]
      · rw [if_neg (fun q => hq ((nI_leI (by omega) (by omega)).mp q))]
        show _ = nI (min _ n)
        rw [Nat.min_eq_right (by omega)]
  · show nI n = _
    rw [eI]; simp
  · show (if V 10 = 0 then nI n else V 14) = _
    rw [h10, eI]
    by_cases hx : sp_ints xs = []
    · rw [if_pos (hz.mpr hx), hx]; rfl
    · rw [if_neg (fun q => hx (hz.mp q)), (h12 hx).2.2]
      congr 1
      cases hc : sp_ints xs with
      | nil => exact absurd hc hx
      | cons a r => rfl
  · show (if V 10 = 0 then V 15 else (if V 15 = 0 then 0 else (if nI n ≤ V 13 then 0 else 1))) = _
    rw [h10, eI, h15]
    by_cases hx : sp_ints xs = []
    · rw [if_pos (hz.mpr hx), hx]; rfl
    · rw [if_neg (fun q => hx (hz.mp q)), (h12 hx).2.1, sp_asc_app hx (by simp)]
      have hm := b2 _ (sp_last_mem hx)
      cases ha : sp_asc (sp_ints xs) with
      | false => simp
      | true =>
        rw [if_neg (by simp)]
        by_cases hq : n ≤ (sp_ints xs).getLastD 0
        · rw [if_pos ((nI_leI (by omega) (by omega)).mpr hq)]
          have : decide ((sp_ints xs).getLastD 0 < ([n] : List Nat).headD 0) = false := by simpa using hq
          rw [this]; rfl
        · rw [if_neg (fun q => hq ((nI_leI (by omega) (by omega)).mp q))]
          have : decide ((sp_ints xs).getLastD 0 < ([n] : List Nat).headD 0) = true := by simpa using hq
          rw [this]; rfl
  · intro j m hj
    rw [hcl]
    by_cases hjl : j = xs.length
    · subst hjl
      rw [List.getElem?_append_right (Nat.le_refl _)] at hj
      simp at hj
      subst hj
      exact ⟨pk_us, by simp [va_up]⟩
    · have hj' : xs[j]? = some (.inl m) := by
        by_cases hlt : j < xs.length
        · rw [List.getElem?_append_left hlt] at hj; exact hj
        · rw [List.getElem?_append_right (by omega)] at hj
          have : ([Sum.inl n] : List sp_X)[j - xs.length]? = none := List.getElem?_eq_none (by simp; omega)
          rw [this] at hj; cases hj
      obtain ⟨q1, q2⟩ := hnu j m hj'
      exact ⟨by rw [pk_un hjl]; exact q1, by simp [va_up, hjl, q2]⟩
  · intro j q hj
    rw [hcl]
    by_cases hjl : j = xs.length
    · subst hjl
      rw [List.getElem?_append_right (Nat.le_refl _)] at hj
      simp at hj
    · have hj' : xs[j]? = some (.inr q) := by
        by_cases hlt : j < xs.length
        · rw [List.getElem?_append_left hlt] at hj; exact hj
        · rw [List.getElem?_append_right (by omega)] at hj
          have : ([Sum.inl n] : List sp_X)[j - xs.length]? = none := List.getElem?_eq_none (by simp; omega)
          rw [this] at hj; cases hj
      simp [va_up, hjl, hpa j q hj']
/-- what the rows keep of a whole value that is a part -/
def sp_pt (W : Nat → Int32) (q : Nat × Nat × Nat × List Nat) : Prop := W 6 = nI q.2.1 ∧ W 7 = nI q.2.2.1 ∧ W 10 = nI q.2.2.2.length ∧ W 11 = nI q.2.2.2.sum ∧ (q.2.2.2 ≠ [] → W 12 = nI (sp_min q.2.2.2) ∧ W 13 = nI (q.2.2.2.getLastD 0) ∧ W 14 = nI (q.2.2.2.headD 0)) ∧ W 15 = (if sp_asc q.2.2.2 then 1 else 0)
theorem sp_part {V W nu : Nat → Int32} {pa : Nat → Option Nat} {t c : Nat} {q : Nat × Nat × Nat × List Nat} {xs : List sp_X} (hok : sp_ok V nu pa t c xs) (hg : sp_g xs) (hl : xs.length < 3) (hq : sp_gx (.inr q)) (hW : sp_pt W q) :
    sp_ok (vr_part V W) (upd nu (V 3).toNatClampNeg 0) (va_up pa (V 3).toNatClampNeg (some q.1)) t c (xs ++ [.inr q]) := by
  obtain ⟨h0, h2, h3, h6, h7, h8, h9, h10, h11, h12, h15, hnu, hpa⟩ := hok
  obtain ⟨b1, b2, b3, b4⟩ := sp_len_ints hg.2
  obtain ⟨g1, g2, g3, g4, g5, g6⟩ := hq
  obtain ⟨w6, w7, w10, w11, w12, w15⟩ := hW
  have hlen : (sp_ints xs).length ≤ 100 := by omega
  have eI : sp_ints (xs ++ [.inr q]) = sp_ints xs ++ q.2.2.2 := by rw [sp_ints_app]; simp [sp_ints]
  have eS : sp_size (xs ++ [.inr q]) = sp_size xs + q.2.1 := by rw [sp_size_app]; simp [sp_size]
  have eH : sp_hts (xs ++ [.inr q]) = sp_hts xs ++ [q.2.2.1] := by rw [sp_hts_app]; simp [sp_hts]
  have eF : sp_fst (xs ++ [.inr q]) = sp_fst xs := by rw [sp_fst_app]; cases sp_fst xs <;> rfl
  have hcl : (V 3).toNatClampNeg = xs.length := by rw [h3]; exact nI_clamp (by omega)
  have hz := sp_nil_len (l := sp_ints xs) (by omega)
  have hle : W 10 ≤ 0 ↔ q.2.2.2 = [] := by
    rw [w10, ← nI_0, nI_leI (by omega) (by decide), Nat.le_zero]
    exact List.length_eq_zero_iff
  have hmx : sp_max (sp_hts xs) ≤ 8 := sp_max_le (fun n hn => (b4 n hn).2)
  refine ⟨h0, h2, ?_, ?_, ?_, ?_, ?_, ?_, ?_, fun hne => ⟨?_, ?_, ?_⟩, ?_, ?_, ?_⟩
  · show (if W 10 ≤ 0 then V 3 + 1 else (V 3 + 1)) = _
    rw [ite_self, h3, nI_1]; simp
  · show (if W 10 ≤ 0 then V 6 + W 6 else (V 6 + W 6)) = _
    rw [ite_self, h6, w6, nI_add, eS, Nat.add_assoc]
  · show (if W 7 < V 7 then V 7 else W 7 + 1) = _
    rw [h7, w7, eH, sp_max_app]
    by_cases hx : q.2.2.1 < 1 + sp_max (sp_hts xs)
    · rw [if_pos ((nI_ltI (by omega) (by omega)).mpr hx)]
      congr 2
      simp [sp_max]; omega
    · rw [if_neg (fun z => hx ((nI_ltI (by omega) (by omega)).mp z)), nI_1]
      congr 1
      simp [sp_max]; omega
  · show (if V 8 = 0 then W 7 else (if V 8 ≤ W 7 then V 8 else W 7)) = _
    rw [h8, w7, eH]
    by_cases hx : sp_hts xs = []
    · rw [hx]; rw [if_pos (by rfl)]; rfl
    · have hm := b4 _ (sp_min_mem hx)
      rw [if_neg (fun z => by
        rw [← nI_0, nI_eq (by omega) (by decide)] at z
        omega), sp_min_app hx (by simp)]
      by_cases hy : sp_min (sp_hts xs) ≤ q.2.2.1
      · rw [if_pos ((nI_leI (by omega) (by omega)).mpr hy)]
        show _ = nI (min _ q.2.2.1)
        rw [Nat.min_eq_left hy]
      · rw [if_neg (fun z => hy ((nI_leI (by omega) (by omega)).mp z))]
        show _ = nI (min _ q.2.2.1)
        rw [Nat.min_eq_right (by omega)]
  · show V 9 = _
    rw [eF]; exact h9
  · show (if W 10 ≤ 0 then V 10 else V 10 + W 10) = _
    rw [eI, List.length_append, h10]
    by_cases hx : q.2.2.2 = []
    · rw [if_pos (hle.mpr hx), hx]; simp
    · rw [if_neg (fun z => hx (hle.mp z)), w10, nI_add]
  · show (if W 10 ≤ 0 then V 11 else V 11 + W 11) = _
    rw [eI, List.sum_append_nat, h11]
    by_cases hx : q.2.2.2 = []
    · rw [if_pos (hle.mpr hx), hx]; simp
    · rw [if_neg (fun z => hx (hle.mp z)), w11, nI_add]
  · show (if W 10 ≤ 0 then V 12 else (if V 10 = 0 then W 12 else (if V 12 ≤ W 12 then V 12 else W 12))) = _
    rw [eI] at hne ⊢
    by_cases hx : q.2.2.2 = []
    · rw [if_pos (hle.mpr hx), hx, List.append_nil]
      rw [hx, List.append_nil] at hne
      exact (h12 hne).1
    · rw [if_neg (fun z => hx (hle.mp z)), h10]
      by_cases hy : sp_ints xs = []
      · rw [if_pos (hz.mpr hy), hy, (w12 hx).1]; rfl
      · rw [if_neg (fun z => hy (hz.mp z)), (h12 hy).1, (w12 hx).1, sp_min_app hy hx]
        have m1 := b2 _ (sp_min_mem hy)
        have m2 := g6 _ (sp_min_mem hx)
        by_cases hq : sp_min (sp_ints xs) ≤ sp_min q.2.2.2
        · rw [if_pos ((nI_leI (by omega) (by omega)).mpr hq), Nat.min_eq_left hq]
        · rw [if_neg (fun z => hq ((nI_leI (by omega) (by omega)).mp z)), Nat.min_eq_right (by omega)]
  · show (if W 10 ≤ 0 then V 13 else W 13) = _
    rw [eI] at hne ⊢
    by_cases hx : q.2.2.2 = []
    · rw [if_pos (hle.mpr hx), hx, List.append_nil]
      rw [hx, List.append_nil] at hne
      exact (h12 hne).2.1
    · rw [if_neg (fun z => hx (hle.mp z)), (w12 hx).2.1]
      rw [sp_last_app hx]
  · show (if W 10 ≤ 0 then V 14 else (if V 10 = 0 then W 14 else V 14)) = _
    rw [eI] at hne ⊢
    by_cases hx : q.2.2.2 = []
    · rw [if_pos (hle.mpr hx), hx, List.append_nil]
      rw [hx, List.append_nil] at hne
      exact (h12 hne).2.2
    · rw [if_neg (fun z => hx (hle.mp z)), h10]
      by_cases hy : sp_ints xs = []
      · rw [if_pos (hz.mpr hy), hy, (w12 hx).2.2]; rfl
      · rw [if_neg (fun z => hy (hz.mp z)), (h12 hy).2.2]
        congr 1
        cases hc : sp_ints xs with
        | nil => exact absurd hc hy
        | cons a r => rfl
  · show (if W 10 ≤ 0 then V 15 else (if ((if V 10 = 0 then V 15 else (if V 15 = 0 then 0 else (if W 14 ≤ V 13 then 0 else 1))) : Int32) = 0 then 0 else (if W 15 = 0 then 0 else 1))) = _
    rw [eI]
    by_cases hx : q.2.2.2 = []
    · rw [if_pos (hle.mpr hx), hx, List.append_nil]; exact h15
    · rw [if_neg (fun z => hx (hle.mp z)), h10, h15, w15]
      by_cases hy : sp_ints xs = []
      · rw [if_pos (hz.mpr hy), hy]
        rcases Bool.eq_false_or_eq_true (sp_asc q.2.2.2) with hb | hb <;> simp [sp_asc, hb]
      · rw [if_neg (fun z => hy (hz.mp z)), (h12 hy).2.1, (w12 hx).2.2, sp_asc_app hy hx]
        have m1 := b2 _ (sp_last_mem hy)
        have m2 := g6 _ (sp_head_mem hx)
        have m3 : nI (q.2.2.2.headD 0) ≤ nI ((sp_ints xs).getLastD 0) ↔ q.2.2.2.headD 0 ≤ (sp_ints xs).getLastD 0 := nI_leI (by omega) (by omega)
        by_cases hq : q.2.2.2.headD 0 ≤ (sp_ints xs).getLastD 0
        · have e1 : decide ((sp_ints xs).getLastD 0 < q.2.2.2.headD 0) = false := by simpa using hq
          rw [if_pos (m3.mpr hq), e1]
          cases sp_asc (sp_ints xs) <;> cases sp_asc q.2.2.2 <;> simp
        · have e1 : decide ((sp_ints xs).getLastD 0 < q.2.2.2.headD 0) = true := by simpa using hq
          rw [if_neg (fun z => hq (m3.mp z)), e1]
          cases sp_asc (sp_ints xs) <;> cases sp_asc q.2.2.2 <;> simp
  · intro j m hj
    rw [hcl]
    by_cases hjl : j = xs.length
    · subst hjl
      rw [List.getElem?_append_right (Nat.le_refl _)] at hj
      simp at hj
    · have hj' : xs[j]? = some (.inl m) := by
        by_cases hlt : j < xs.length
        · rw [List.getElem?_append_left hlt] at hj; exact hj
        · rw [List.getElem?_append_right (by omega)] at hj
          have : ([Sum.inr q] : List sp_X)[j - xs.length]? = none := List.getElem?_eq_none (by simp; omega)
          rw [this] at hj; cases hj
      obtain ⟨q1, q2⟩ := hnu j m hj'
      exact ⟨by rw [pk_un hjl]; exact q1, by simp [va_up, hjl, q2]⟩
  · intro j q' hj
    rw [hcl]
    by_cases hjl : j = xs.length
    · subst hjl
      rw [List.getElem?_append_right (Nat.le_refl _)] at hj
      simp at hj
      subst hj
      simp [va_up]
    · have hj' : xs[j]? = some (.inr q') := by
        by_cases hlt : j < xs.length
        · rw [List.getElem?_append_left hlt] at hj; exact hj
        · rw [List.getElem?_append_right (by omega)] at hj
          have : ([Sum.inr q] : List sp_X)[j - xs.length]? = none := List.getElem?_eq_none (by simp; omega)
          rw [this] at hj; cases hj
      simp [va_up, hjl, hpa j q' hj']
