/-! ===== the grammar; what a condition says ===== -/
/-- least and greatest number, types, constructors: owner, three parameters (a type; 9; 10 for none), condition -/
abbrev sp_C : Type := Nat × Nat × Nat × Nat × Nat
abbrev sp_G : Type := Nat × Nat × Nat × List sp_C
def sp_pI (p : Nat) : Int32 := if p = 10 then -1 else nI p
def sp_par (q : sp_C) (k : Nat) : Nat := match k with
  | 0 => q.2.1
  | 1 => q.2.2.1
  | 2 => q.2.2.2.1
  | _ => 10
def sp_isT (p : Nat) : Nat := if p < 9 then 1 else 0
def sp_ah (q : sp_C) (k : Nat) : Nat := match k with
  | 0 => sp_isT q.2.1 + (sp_isT q.2.2.1 + sp_isT q.2.2.2.1)
  | 1 => sp_isT q.2.2.1 + sp_isT q.2.2.2.1
  | 2 => sp_isT q.2.2.2.1
  | _ => 0
def sp_wc (ty : Nat) (q : sp_C) : Prop := q.1 < ty ∧ (∀ k, k < 3 → sp_par q k < ty ∨ sp_par q k = 9 ∨ sp_par q k = 10) ∧ (q.2.1 = 10 → q.2.2.1 = 10) ∧ (q.2.2.1 = 10 → q.2.2.2.1 = 10) ∧ ¬ (q.2.1 < ty ∧ q.2.2.1 < ty ∧ q.2.2.2.1 < ty) ∧ q.2.2.2.2 ≤ 5
def sp_wg (g : sp_G) : Prop := g.1 ≤ g.2.1 ∧ g.2.1 ≤ 5 ∧ g.2.2.1 ≤ 4 ∧ g.2.2.2.length ≤ 6 ∧ ∀ q ∈ g.2.2.2, sp_wc g.2.2.1 q
/-- the grammar's cells hold g -/
def cs_g (S : cs_S) (g : sp_G) : Prop := S.1 0 = nI g.1 ∧ S.1 1 = nI g.2.1 ∧ S.1 2 = nI g.2.2.1 ∧ S.1 3 = nI g.2.2.2.length ∧
  ∀ (c : Nat) (q : sp_C), g.2.2.2[c]? = some q → S.2.1 2 c = nI q.1 ∧ (∀ k, k < 3 → S.2.1 3 (3 * c + k) = sp_pI (sp_par q k) ∧ S.2.1 4 (3 * c + k) = nI (sp_ah q k)) ∧ S.2.1 5 c = nI q.2.2.2.2
theorem sp_hc1 {c n : Nat} (h : c < n) (hn : n ≤ 6) : (if nI c < 0 then 0 else (if nI n ≤ nI c then 0 else (if 6 ≤ nI c then 0 else 1)) : Int32) = 1 := by
  rw [if_neg (nI_pos (by omega)), if_neg (fun z => by rw [nI_leI (by omega) (by omega)] at z; omega), if_neg (fun z => by
    have e : (6 : Int32) = nI 6 := by decide
    rw [e, nI_leI (by omega) (by omega)] at z; omega)]
theorem cg_k12 : ∀ k ∈ ([(0, 1), (0, 2)] : List cs_K), k ∈ cs_keys := by
  intro k hk
  simp only [List.mem_cons, List.not_mem_nil, or_false] at hk
  rcases hk with rfl | rfl <;> exact cs_k0 (by decide)
theorem cg_kk {i : Nat} (hi : i < 19) : ∀ k ∈ ([(0, 1), (0, i)] : List cs_K), k ∈ cs_keys := by
  intro k hk
  simp only [List.mem_cons, List.not_mem_nil, or_false] at hk
  rcases hk with rfl | rfl
  · exact cs_k0 (by decide)
  · exact cs_k0 hi
theorem cg_typeOf {G : ax_G} {ad : cs_K → Nat} (hi : cs_inj ad) (d : Nat) (S : cs_S) (h : ax_H) {g : sp_G} (hg : cs_g S g) (hw : sp_wg g) {c : Nat} {q : sp_C} (hc : g.2.2.2[c]? = some q) : AW G mX1_typeOf (d + 1) 0 0 (fun r h1 => r = .inl (some (.int (nI q.1))) ∧ h1 = cs_O ad S h) 0 [(0, .ref (ad (0, 1))), (1, .int (nI c))] [] (cs_O ad S h) 0 0 := by
  have hlt : c < g.2.2.2.length := (List.getElem?_eq_some_iff.mp hc).1
  have hl6 := hw.2.2.2.1
  refine ax_eqh (cs_in hi (ks := [(0, 1), (0, 2)]) (cg_kk (by decide))).symm ?_
  refine ax_mono (ctX1_typeOf d (cs_O ad S h) (ad (0, 1)) (S.1 0) (S.1 1) (S.1 2) (S.1 3) (ad (0, 2)) (ad (0, 3)) (ad (0, 4)) (ad (0, 5)) (nI c) (S.2.1 2) (cs_nd hi (cg_kk (by decide)) (by simp))) ?_
  rintro r h1 ⟨e, rfl⟩
  refine ⟨e.trans ?_, cs_in hi (cg_kk (by decide))⟩
  rw [hg.2.2.2.1, sp_hc1 hlt hl6, if_neg (by decide), nI_clamp (by omega), (hg.2.2.2.2 c q hc).1]
theorem cg_conditionOf {G : ax_G} {ad : cs_K → Nat} (hi : cs_inj ad) (d : Nat) (S : cs_S) (h : ax_H) {g : sp_G} (hg : cs_g S g) (hw : sp_wg g) {c : Nat} {q : sp_C} (hc : g.2.2.2[c]? = some q) : AW G mX1_conditionOf (d + 1) 0 0 (fun r h1 => r = .inl (some (.int (nI q.2.2.2.2))) ∧ h1 = cs_O ad S h) 0 [(0, .ref (ad (0, 1))), (1, .int (nI c))] [] (cs_O ad S h) 0 0 := by
  have hlt : c < g.2.2.2.length := (List.getElem?_eq_some_iff.mp hc).1
  have hl6 := hw.2.2.2.1
  refine ax_eqh (cs_in hi (ks := [(0, 1), (0, 5)]) (cg_kk (by decide))).symm ?_
  refine ax_mono (ctX1_conditionOf d (cs_O ad S h) (ad (0, 1)) (S.1 0) (S.1 1) (S.1 2) (S.1 3) (ad (0, 2)) (ad (0, 3)) (ad (0, 4)) (ad (0, 5)) (nI c) (S.2.1 5) (cs_nd hi (cg_kk (by decide)) (by simp))) ?_
  rintro r h1 ⟨e, rfl⟩
  refine ⟨e.trans ?_, cs_in hi (cg_kk (by decide))⟩
  rw [hg.2.2.2.1, sp_hc1 hlt hl6, if_neg (by decide), nI_clamp (by omega), (hg.2.2.2.2 c q hc).2.2]
theorem cg_parameter {G : ax_G} {ad : cs_K → Nat} (hi : cs_inj ad) (d : Nat) (S : cs_S) (h : ax_H) {g : sp_G} (hg : cs_g S g) (hw : sp_wg g) {c k : Nat} {q : sp_C} (hc : g.2.2.2[c]? = some q) (hk : k ≤ 3) : AW G mX1_parameter (d + 1) 0 0 (fun r h1 => r = .inl (some (.int (sp_pI (sp_par q k)))) ∧ h1 = cs_O ad S h) 0 [(0, .ref (ad (0, 1))), (1, .int (nI c)), (2, .int (nI k))] [] (cs_O ad S h) 0 0 := by
  have hlt : c < g.2.2.2.length := (List.getElem?_eq_some_iff.mp hc).1
  have hl6 := hw.2.2.2.1
  refine ax_eqh (cs_in hi (ks := [(0, 1), (0, 3)]) (cg_kk (by decide))).symm ?_
  refine ax_mono (ctX1_parameter d (cs_O ad S h) (ad (0, 1)) (S.1 0) (S.1 1) (S.1 2) (S.1 3) (ad (0, 2)) (ad (0, 3)) (ad (0, 4)) (ad (0, 5)) (nI c) (nI k) (S.2.1 3) (cs_nd hi (cg_kk (by decide)) (by simp))) ?_
  rintro r h1 ⟨e, rfl⟩
  refine ⟨e.trans ?_, cs_in hi (cg_kk (by decide))⟩
  have e3 : (3 : Int32) = nI 3 := by decide
  rw [hg.2.2.2.1, sp_hc1 hlt hl6, if_neg (by decide), if_neg (nI_pos (by omega))]
  by_cases hk3 : k < 3
  · rw [if_pos (by rw [e3, nI_ltI (by omega) (by omega)]; exact hk3), e3, pk_mul, nI_add, nI_clamp (by omega), Nat.mul_comm c 3, ((hg.2.2.2.2 c q hc).2.1 k hk3).1]
  · have : k = 3 := by omega
    subst this
    rw [if_neg (by rw [e3, nI_ltI (by omega) (by omega)]; omega)]
    rfl
theorem cg_typesFrom {G : ax_G} {ad : cs_K → Nat} (hi : cs_inj ad) (d : Nat) (S : cs_S) (h : ax_H) {g : sp_G} (hg : cs_g S g) (hw : sp_wg g) {c k : Nat} {q : sp_C} (hc : g.2.2.2[c]? = some q) (hk : k ≤ 3) : AW G mX1_typesFrom (d + 1) 0 0 (fun r h1 => r = .inl (some (.int (nI (sp_ah q k)))) ∧ h1 = cs_O ad S h) 0 [(0, .ref (ad (0, 1))), (1, .int (nI c)), (2, .int (nI k))] [] (cs_O ad S h) 0 0 := by
  have hlt : c < g.2.2.2.length := (List.getElem?_eq_some_iff.mp hc).1
  have hl6 := hw.2.2.2.1
  refine ax_eqh (cs_in hi (ks := [(0, 1), (0, 4)]) (cg_kk (by decide))).symm ?_
  refine ax_mono (ctX1_typesFrom d (cs_O ad S h) (ad (0, 1)) (S.1 0) (S.1 1) (S.1 2) (S.1 3) (ad (0, 2)) (ad (0, 3)) (ad (0, 4)) (ad (0, 5)) (nI c) (nI k) (S.2.1 4) (cs_nd hi (cg_kk (by decide)) (by simp))) ?_
  rintro r h1 ⟨e, rfl⟩
  refine ⟨e.trans ?_, cs_in hi (cg_kk (by decide))⟩
  have e3 : (3 : Int32) = nI 3 := by decide
  rw [hg.2.2.2.1, sp_hc1 hlt hl6, if_neg (by decide), if_neg (nI_pos (by omega))]
  by_cases hk3 : k < 3
  · rw [if_pos (by rw [e3, nI_ltI (by omega) (by omega)]; exact hk3), e3, pk_mul, nI_add, nI_clamp (by omega), Nat.mul_comm c 3, ((hg.2.2.2.2 c q hc).2.1 k hk3).2]
  · have : k = 3 := by omega
    subst this
    rw [if_neg (by rw [e3, nI_ltI (by omega) (by omega)]; omega)]
    rfl
/-- what a condition says of arguments -/
def sp_cond (k : Nat) (xs : List sp_X) : Bool := match k with
  | 1 => sp_asc (sp_ints xs)
  | 2 => match sp_fst xs with
    | none => true
    | some n => decide (n ≤ sp_min (sp_ints xs))
  | 3 => decide (sp_max (sp_hts xs) = sp_min (sp_hts xs))
  | 4 => decide (sp_max (sp_hts xs) ≤ sp_min (sp_hts xs) + 1)
  | 5 => decide ((sp_ints xs).sum % 2 = 0)
  | _ => true
theorem sp_fst_in {xs : List sp_X} {n : Nat} (h : sp_fst xs = some n) : n ∈ sp_ints xs := by
  induction xs with
  | nil => cases h
  | cons x r ih =>
    cases x with
    | inl m => cases h; exact List.mem_cons_self
    | inr q => exact List.mem_append_right _ (ih h)
theorem sp_min_le_max (l : List Nat) : sp_min l ≤ sp_max l := by
  induction l with
  | nil => exact Nat.le_refl _
  | cons a r ih =>
    cases r with
    | nil => simp [sp_min, sp_max]
    | cons b r =>
      rw [sp_min_cons a (by simp)]
      show _ ≤ max a (sp_max (b :: r))
      omega
theorem sp_fits {V nu : Nat → Int32} {pa : Nat → Option Nat} {t c k : Nat} {xs : List sp_X} (hok : sp_ok V nu pa t c xs) (hg : sp_g xs) (hk : k ≤ 5) :
    (if nI k = 1 then V 15 else (if nI k = 2 then (if V 9 < 0 then 1 else (if V 12 < V 9 then 0 else 1)) else (if nI k = 3 then (if ((V 7 - 1) - V 8) = 0 then 1 else 0) else (if nI k = 4 then (if (1 : Int32) < ((V 7 - 1) - V 8) then 0 else 1) else (if nI k = 5 then (if (V 11 - V 11 / 2 * 2) = 0 then 1 else 0) else 1))))) = (if sp_cond k xs then 1 else 0 : Int32) := by
  obtain ⟨h0, h2, h3, h6, h7, h8, h9, h10, h11, h12, h15, hnu, hpa⟩ := hok
  obtain ⟨b1, b2, b3, b4⟩ := sp_len_ints hg.2
  have hlen : (sp_ints xs).length ≤ 100 := by have := hg.1; omega
  have hsum := sp_sum_le b2
  have hmx : sp_max (sp_hts xs) ≤ 8 := sp_max_le (fun n hn => (b4 n hn).2)
  have hmm := sp_min_le_max (sp_hts xs)
  have hd : (V 7 - 1) - V 8 = nI (sp_max (sp_hts xs) - sp_min (sp_hts xs)) := by
    rw [h7, h8, Nat.add_comm 1, nI_pred, pk_sub hmm]
  have e1 : (1 : Int32) = nI 1 := by decide
  rcases (show k = 0 ∨ k = 1 ∨ k = 2 ∨ k = 3 ∨ k = 4 ∨ k = 5 by omega) with rfl | rfl | rfl | rfl | rfl | rfl
  · rfl
  · rw [if_pos (by decide)]; exact h15
  · rw [if_neg (by decide), if_pos (by decide)]
    unfold sp_cond
    cases hf : sp_fst xs with
    | none =>
      rw [hf] at h9
      rw [h9, if_pos (by decide)]; rfl
    | some n =>
      rw [hf] at h9
      have hin := sp_fst_in hf
      have hne : sp_ints xs ≠ [] := fun e => by rw [e] at hin; cases hin
      have m1 := b2 n hin
      have m2 := b2 _ (sp_min_mem hne)
      rw [h9, (h12 hne).1]
      show (if nI n < 0 then 1 else if nI (sp_min (sp_ints xs)) < nI n then 0 else 1) = _
      rw [if_neg (nI_pos (by omega))]
      by_cases hq : n ≤ sp_min (sp_ints xs)
      · rw [if_neg (fun z => by rw [nI_ltI (by omega) (by omega)] at z; omega)]; simp [hq]
      · rw [if_pos (by rw [nI_ltI (by omega) (by omega)]; omega)]; simp [hq]
  · rw [if_neg (by decide), if_neg (by decide), if_pos (by decide), hd]
    unfold sp_cond
    by_cases hq : sp_max (sp_hts xs) = sp_min (sp_hts xs)
    · rw [if_pos (by rw [hq, Nat.sub_self]; rfl)]; simp [hq]
    · rw [if_neg (fun z => by rw [← nI_0, nI_eq (by omega) (by decide)] at z; omega)]; simp [hq]
  · rw [if_neg (by decide), if_neg (by decide), if_neg (by decide), if_pos (by decide), hd]
    unfold sp_cond
    by_cases hq : sp_max (sp_hts xs) ≤ sp_min (sp_hts xs) + 1
    · rw [if_neg (fun z => by rw [e1, nI_ltI (by decide) (by omega)] at z; omega)]; simp [hq]
    · rw [if_pos (by rw [e1, nI_ltI (by decide) (by omega)]; omega)]; simp [hq]
  · rw [if_neg (by decide), if_neg (by decide), if_neg (by decide), if_neg (by decide), if_pos (by decide), h11]
    have e2 : (2 : Int32) = nI 2 := by decide
    rw [e2, pk_rem (by omega) (by decide) (by decide)]
    unfold sp_cond
    by_cases hq : (sp_ints xs).sum % 2 = 0
    · rw [if_pos (by rw [hq]; rfl)]; simp [hq]
    · rw [if_neg (fun z => by rw [← nI_0, nI_eq (by omega) (by decide)] at z; omega)]; simp [hq]
