/-! ===== all values of a constructor with a size, without pruning ===== -/
def rf_e (T0 : List sp_E) (v : Nat) : sp_E := (T0[v]?).getD (0, 0, [])
/-- what an argument can be: none, a number, a value -/
def rf_xc (g : sp_G) (T0 : List sp_E) (p : Nat) : List (List sp_X) := if p = 10 then [[]] else if p = 9 then (List.range' g.1 (g.2.1 + 1 - g.1)).map (fun k => [.inl k]) else (sp_of T0 p).map (fun v => [.inr (sp_att v (rf_e T0 v))])
def rf_full (g : sp_G) (T0 : List sp_E) (q : sp_C) : Nat → List sp_X → Nat → List (List sp_X)
  | 0, _, _ => []
  | n + 1, xs, left => if sp_par q xs.length = 10 then (if left = 0 ∧ sp_cond q.2.2.2.2 xs = true then [xs] else [])
    else (rf_xc g T0 (sp_par q xs.length)).flatMap (fun a => if sp_size a ≤ left then rf_full g T0 q n (xs ++ a) (left - sp_size a) else [])
def rf_cand (g : sp_G) (T0 : List sp_E) (q : sp_C) (s : Nat) : List (List sp_X) := (rf_xc g T0 q.2.1).flatMap (fun a => (rf_xc g T0 q.2.2.1).flatMap (fun b => if s < sp_size a + sp_size b then [] else (rf_xc g T0 q.2.2.2.1).flatMap (fun z => if sp_size a + sp_size b + sp_size z = s ∧ sp_cond q.2.2.2.2 (a ++ b ++ z) = true then [a ++ b ++ z] else [])))
theorem sp_ah_9 {q : sp_C} {k : Nat} (hk : k < 3) (h : sp_par q k = 9) : sp_ah q k = sp_ah q (k + 1) := by
  have h9 : sp_isT 9 = 0 := by decide
  rcases (show k = 0 ∨ k = 1 ∨ k = 2 by omega) with rfl | rfl | rfl
  · have h : q.2.1 = 9 := h
    show sp_isT q.2.1 + (sp_isT q.2.2.1 + sp_isT q.2.2.2.1) = sp_isT q.2.2.1 + sp_isT q.2.2.2.1
    rw [h, h9]; omega
  · have h : q.2.2.1 = 9 := h
    show sp_isT q.2.2.1 + sp_isT q.2.2.2.1 = sp_isT q.2.2.2.1
    rw [h, h9]; omega
  · have h : q.2.2.2.1 = 9 := h
    show sp_isT q.2.2.2.1 = 0
    rw [h, h9]
theorem sp_ah_t {q : sp_C} {k : Nat} (hk : k < 3) (h : sp_par q k < 9) : sp_ah q k = 1 + sp_ah q (k + 1) := by
  have h9 : ∀ p, p < 9 → sp_isT p = 1 := fun p hp => if_pos hp
  rcases (show k = 0 ∨ k = 1 ∨ k = 2 by omega) with rfl | rfl | rfl
  · have h : q.2.1 < 9 := h
    show sp_isT q.2.1 + (sp_isT q.2.2.1 + sp_isT q.2.2.2.1) = 1 + (sp_isT q.2.2.1 + sp_isT q.2.2.2.1)
    rw [h9 _ h]
  · have h : q.2.2.1 < 9 := h
    show sp_isT q.2.2.1 + sp_isT q.2.2.2.1 = 1 + sp_isT q.2.2.2.1
    rw [h9 _ h]
  · have h : q.2.2.2.1 < 9 := h
    show sp_isT q.2.2.2.1 = 1 + 0
    rw [h9 _ h]
theorem rf_par3 {q : sp_C} {k : Nat} (h : sp_par q k ≠ 10) : k < 3 := by
  refine Decidable.byContradiction (fun hn => h ?_)
  match k, hn with
  | 0, hn => exact absurd (by decide) hn
  | 1, hn => exact absurd (by decide) hn
  | 2, hn => exact absurd (by decide) hn
  | k + 3, _ => rfl
/-- a condition that is false stays so, but for EVEN -/
theorem rf_asc_mono : ∀ (a b : List Nat), sp_asc (a ++ b) = true → sp_asc a = true := by
  intro a b h
  by_cases ha : a = []
  · subst ha; rfl
  · by_cases hb : b = []
    · subst hb; rwa [List.append_nil] at h
    · rw [sp_asc_app ha hb] at h
      simp only [Bool.and_eq_true] at h
      exact h.1
theorem rf_min_le {l : List Nat} {x : Nat} (h : x ∈ l) : sp_min l ≤ x := by
  induction l with
  | nil => cases h
  | cons a r ih =>
    by_cases hr : r = []
    · subst hr
      rw [List.mem_singleton.mp h]; exact Nat.le_refl _
    · rw [sp_min_cons a hr]
      rcases List.mem_cons.mp h with z | z
      · omega
      · have := ih z; omega
theorem rf_max_ge {l : List Nat} {x : Nat} (h : x ∈ l) : x ≤ sp_max l := by
  induction l with
  | nil => cases h
  | cons a r ih =>
    show x ≤ max a (sp_max r)
    rcases List.mem_cons.mp h with z | z
    · omega
    · have := ih z; omega
theorem rf_min_app (a b : List Nat) (ha : a ≠ []) : sp_min (a ++ b) ≤ sp_min a := rf_min_le (List.mem_append_left _ (sp_min_mem ha))
theorem rf_max_mem {l : List Nat} (h : l ≠ []) : sp_max l ∈ l := by
  induction l with
  | nil => exact absurd rfl h
  | cons a r ih =>
    show max a (sp_max r) ∈ a :: r
    by_cases hr : r = []
    · subst hr
      show max a 0 ∈ [a]
      rw [Nat.max_eq_left (Nat.zero_le _)]; exact List.mem_singleton.mpr rfl
    · by_cases hm : sp_max r ≤ a
      · rw [Nat.max_eq_left hm]; exact List.mem_cons_self
      · rw [Nat.max_eq_right (by omega)]; exact List.mem_cons_of_mem _ (ih hr)
theorem rf_max_app (a b : List Nat) : sp_max a ≤ sp_max (a ++ b) := by rw [sp_max_app]; omega
theorem sp_cond_mono {k : Nat} (h5 : k ≠ 5) {xs ys : List sp_X} (h : sp_cond k (xs ++ ys) = true) : sp_cond k xs = true := by
  match k, h5, h with
  | 0, _, _ => rfl
  | 1, _, h =>
    have h : sp_asc (sp_ints (xs ++ ys)) = true := h
    rw [sp_ints_app] at h
    exact rf_asc_mono _ _ h
  | 2, _, h =>
    have h : (match sp_fst (xs ++ ys) with | none => true | some n => decide (n ≤ sp_min (sp_ints (xs ++ ys)))) = true := h
    show (match sp_fst xs with | none => true | some n => decide (n ≤ sp_min (sp_ints xs))) = true
    cases hf : sp_fst xs with
    | none => rfl
    | some n =>
      rw [sp_fst_app, hf] at h
      have h : decide (n ≤ sp_min (sp_ints (xs ++ ys))) = true := h
      rw [sp_ints_app] at h
      have hne : sp_ints xs ≠ [] := fun e => by have := sp_fst_in hf; rw [e] at this; cases this
      have := rf_min_app (sp_ints xs) (sp_ints ys) hne
      exact decide_eq_true (by have := of_decide_eq_true h; omega)
  | 3, _, h =>
    have h : decide (sp_max (sp_hts (xs ++ ys)) = sp_min (sp_hts (xs ++ ys))) = true := h
    show decide (sp_max (sp_hts xs) = sp_min (sp_hts xs)) = true
    rw [sp_hts_app] at h
    have h := of_decide_eq_true h
    refine decide_eq_true ?_
    by_cases hn : sp_hts xs = []
    · rw [hn]; rfl
    · have h1 := rf_min_app (sp_hts xs) (sp_hts ys) hn
      have h2 := rf_max_app (sp_hts xs) (sp_hts ys)
      have h3 := sp_min_le_max (sp_hts xs)
      omega
  | 4, _, h =>
    have h : decide (sp_max (sp_hts (xs ++ ys)) ≤ sp_min (sp_hts (xs ++ ys)) + 1) = true := h
    show decide (sp_max (sp_hts xs) ≤ sp_min (sp_hts xs) + 1) = true
    rw [sp_hts_app] at h
    have h := of_decide_eq_true h
    refine decide_eq_true ?_
    by_cases hn : sp_hts xs = []
    · rw [hn]; exact Nat.zero_le _
    · have h1 := rf_min_app (sp_hts xs) (sp_hts ys) hn
      have h2 := rf_max_app (sp_hts xs) (sp_hts ys)
      omega
  | k + 6, _, _ => rfl
theorem sp_clash_cond {k : Nat} {xs : List sp_X} {p : Nat × Nat × Nat × List Nat} (hk : k ≤ 5) (h : sp_clash k xs p = true) : k ≠ 5 ∧ sp_cond k (xs ++ [.inr p]) = false := by
  rcases (show k = 0 ∨ k = 1 ∨ k = 2 ∨ k = 3 ∨ k = 4 ∨ k = 5 by omega) with rfl | rfl | rfl | rfl | rfl | rfl
  · cases h
  · refine ⟨by decide, ?_⟩
    have h : (!(sp_ints xs).isEmpty && (!p.2.2.2.isEmpty && decide (p.2.2.2.headD 0 ≤ (sp_ints xs).getLastD 0))) = true := h
    simp only [Bool.and_eq_true, Bool.not_eq_true', decide_eq_true_eq] at h
    obtain ⟨h1, h2, h3⟩ := h
    have n1 : sp_ints xs ≠ [] := fun e => by rw [e] at h1; cases h1
    have n2 : p.2.2.2 ≠ [] := fun e => by rw [e] at h2; cases h2
    show sp_asc (sp_ints (xs ++ [.inr p])) = false
    rw [sp_ints_app]
    show sp_asc (sp_ints xs ++ (p.2.2.2 ++ [])) = false
    rw [List.append_nil, sp_asc_app n1 n2, decide_eq_false (by omega)]
    simp
  · cases h
  · refine ⟨by decide, ?_⟩
    have h : (!(sp_hts xs).isEmpty && decide (p.2.2.1 ≠ sp_min (sp_hts xs))) = true := h
    simp only [Bool.and_eq_true, Bool.not_eq_true', decide_eq_true_eq] at h
    obtain ⟨h1, h3⟩ := h
    have n1 : sp_hts xs ≠ [] := fun e => by rw [e] at h1; cases h1
    show decide (sp_max (sp_hts (xs ++ [.inr p])) = sp_min (sp_hts (xs ++ [.inr p]))) = false
    refine decide_eq_false (fun z => ?_)
    rw [sp_hts_snocP] at z
    have m1 := rf_max_ge (l := sp_hts xs ++ [p.2.2.1]) (x := p.2.2.1) (by simp)
    have m2 := rf_min_le (l := sp_hts xs ++ [p.2.2.1]) (x := p.2.2.1) (by simp)
    have m3 := rf_max_ge (l := sp_hts xs ++ [p.2.2.1]) (x := sp_min (sp_hts xs)) (List.mem_append_left _ (sp_min_mem n1))
    have m4 := rf_min_le (l := sp_hts xs ++ [p.2.2.1]) (x := sp_min (sp_hts xs)) (List.mem_append_left _ (sp_min_mem n1))
    omega
  · refine ⟨by decide, ?_⟩
    have h : (!(sp_hts xs).isEmpty && (decide (sp_min (sp_hts xs) + 1 < p.2.2.1) || decide (p.2.2.1 + 1 < sp_min (sp_hts xs)))) = true := h
    simp only [Bool.and_eq_true, Bool.not_eq_true', Bool.or_eq_true, decide_eq_true_eq] at h
    obtain ⟨h1, h3⟩ := h
    have n1 : sp_hts xs ≠ [] := fun e => by rw [e] at h1; cases h1
    show decide (sp_max (sp_hts (xs ++ [.inr p])) ≤ sp_min (sp_hts (xs ++ [.inr p])) + 1) = false
    refine decide_eq_false (fun z => ?_)
    rw [sp_hts_snocP] at z
    have m1 := rf_max_ge (l := sp_hts xs ++ [p.2.2.1]) (x := p.2.2.1) (by simp)
    have m2 := rf_min_le (l := sp_hts xs ++ [p.2.2.1]) (x := p.2.2.1) (by simp)
    have m3 := rf_max_ge (l := sp_hts xs ++ [p.2.2.1]) (x := sp_min (sp_hts xs)) (List.mem_append_left _ (sp_min_mem n1))
    have m4 := rf_min_le (l := sp_hts xs ++ [p.2.2.1]) (x := sp_min (sp_hts xs)) (List.mem_append_left _ (sp_min_mem n1))
    omega
  · cases h
theorem rf_full_mem {g : sp_G} {T0 : List sp_E} {q : sp_C} : ∀ (n : Nat) (xs : List sp_X) (left : Nat) (ys : List sp_X), ys ∈ rf_full g T0 q n xs left → ∃ w, ys = xs ++ w ∧ sp_cond q.2.2.2.2 ys = true := by
  intro n
  induction n with
  | zero => intro xs left ys h; cases h
  | succ n ih =>
    intro xs left ys h
    have h : ys ∈ (if sp_par q xs.length = 10 then (if left = 0 ∧ sp_cond q.2.2.2.2 xs = true then [xs] else []) else (rf_xc g T0 (sp_par q xs.length)).flatMap (fun a => if sp_size a ≤ left then rf_full g T0 q n (xs ++ a) (left - sp_size a) else [])) := h
    by_cases h10 : sp_par q xs.length = 10
    · rw [if_pos h10] at h
      by_cases hc : left = 0 ∧ sp_cond q.2.2.2.2 xs = true
      · rw [if_pos hc] at h
        rw [List.mem_singleton.mp h]
        exact ⟨[], (List.append_nil _).symm, hc.2⟩
      · rw [if_neg hc] at h; cases h
    · rw [if_neg h10] at h
      obtain ⟨a, -, h2⟩ := List.mem_flatMap.mp h
      by_cases hs : sp_size a ≤ left
      · rw [if_pos hs] at h2
        obtain ⟨w, e1, e2⟩ := ih _ _ _ h2
        exact ⟨a ++ w, by rw [e1, List.append_assoc], e2⟩
      · rw [if_neg hs] at h2; cases h2
theorem rf_full_no {g : sp_G} {T0 : List sp_E} {q : sp_C} {n : Nat} {xs : List sp_X} {left : Nat} (h5 : q.2.2.2.2 ≠ 5) (h : sp_cond q.2.2.2.2 xs = false) : rf_full g T0 q n xs left = [] := by
  refine List.eq_nil_iff_forall_not_mem.mpr (fun ys hy => ?_)
  obtain ⟨w, e1, e2⟩ := rf_full_mem n xs left ys hy
  rw [e1] at e2
  rw [sp_cond_mono h5 e2] at h
  cases h
theorem rf_full_gd {g : sp_G} (hw : sp_wg g) {T0 : List sp_E} {q : sp_C} (hq : q ∈ g.2.2.2) : ∀ (n : Nat) (xs : List sp_X) (left : Nat), xs.length + n = 4 → (if sp_ah q xs.length = 0 then left ≠ 0 else left < sp_ah q xs.length) → rf_full g T0 q n xs left = [] := by
  intro n
  induction n with
  | zero => intro xs left _ _; rfl
  | succ n ih =>
    intro xs left hl hgd
    have hwc := hw.2.2.2.2 q hq
    show (if sp_par q xs.length = 10 then (if left = 0 ∧ sp_cond q.2.2.2.2 xs = true then [xs] else []) else (rf_xc g T0 (sp_par q xs.length)).flatMap (fun a => if sp_size a ≤ left then rf_full g T0 q n (xs ++ a) (left - sp_size a) else [])) = []
    by_cases h10 : sp_par q xs.length = 10
    · rw [if_pos h10]
      rw [sp_ah10 hwc h10, if_pos rfl] at hgd
      rw [if_neg (fun z => hgd z.1)]
    · rw [if_neg h10]
      have hk3 := rf_par3 h10
      refine List.flatMap_eq_nil_iff.mpr (fun a ha => ?_)
      by_cases hs : sp_size a ≤ left
      · rw [if_pos hs]
        unfold rf_xc at ha
        rw [if_neg h10] at ha
        by_cases h9 : sp_par q xs.length = 9
        · rw [if_pos h9] at ha
          obtain ⟨k, -, rfl⟩ := List.mem_map.mp ha
          refine ih _ _ (by simp; omega) ?_
          rw [sp_ah_9 hk3 h9] at hgd
          rw [List.length_append]
          exact hgd
        · rw [if_neg h9] at ha
          obtain ⟨v, -, rfl⟩ := List.mem_map.mp ha
          have hlt : sp_par q xs.length < 9 := by
            have := hw.2.2.1
            rcases hwc.2.1 _ hk3 with z | z | z <;> omega
          refine ih _ _ (by simp; omega) ?_
          rw [sp_ah_t hk3 hlt, if_neg (by omega)] at hgd
          rw [List.length_append]
          show (if sp_ah q (xs.length + 1) = 0 then left - sp_size [Sum.inr (sp_att v (rf_e T0 v))] ≠ 0 else left - sp_size [Sum.inr (sp_att v (rf_e T0 v))] < sp_ah q (xs.length + 1))
          have hsz : 1 ≤ sp_size [Sum.inr (sp_att v (rf_e T0 v))] := by
            show 1 ≤ 1 + sp_size (rf_e T0 v).2.2 + 0
            omega
          by_cases h0 : sp_ah q (xs.length + 1) = 0
          · rw [if_pos h0]; omega
          · rw [if_neg h0]; omega
      · rw [if_neg hs]
theorem rf_flat {α β : Type} (l : List α) (F : α → List β) (a b : Nat) (h1 : ∀ i x, i < a → l[i]? = some x → F x = []) (h2 : ∀ i x, b ≤ i → l[i]? = some x → F x = []) : l.flatMap F = ((l.take b).drop a).flatMap F := by
  have e1 : l.flatMap F = (l.take b).flatMap F ++ (l.drop b).flatMap F := by rw [← List.flatMap_append, List.take_append_drop]
  have e2 : (l.take b).flatMap F = ((l.take b).take a).flatMap F ++ ((l.take b).drop a).flatMap F := by rw [← List.flatMap_append, List.take_append_drop]
  have z1 : (l.drop b).flatMap F = [] := by
    refine List.flatMap_eq_nil_iff.mpr (fun x hx => ?_)
    obtain ⟨i, hi⟩ := List.getElem?_of_mem hx
    rw [List.getElem?_drop] at hi
    exact h2 (b + i) x (by omega) hi
  have z2 : ((l.take b).take a).flatMap F = [] := by
    refine List.flatMap_eq_nil_iff.mpr (fun x hx => ?_)
    obtain ⟨i, hi⟩ := List.getElem?_of_mem hx
    have hil := (List.getElem?_eq_some_iff.mp hi).1
    rw [List.length_take, List.length_take] at hil
    rw [List.getElem?_take_of_lt (by omega), List.getElem?_take_of_lt (by omega)] at hi
    exact h1 i x (by omega) hi
  rw [e1, e2, z1, z2, List.nil_append, List.append_nil]
theorem rf_flat_congr {α β : Type} {l : List α} {F F' : α → List β} (h : ∀ x ∈ l, F x = F' x) : l.flatMap F = l.flatMap F' := by
  induction l with
  | nil => rfl
  | cons a r ih => rw [List.flatMap_cons, List.flatMap_cons, h a List.mem_cons_self, ih (fun x hx => h x (List.mem_cons_of_mem _ hx))]
/-- the class's way gives them all, in the same order -/
theorem rf_ext {g : sp_G} (hw : sp_wg g) {T0 : List sp_E} (hs : sp_srt T0) {q : sp_C} (hq : q ∈ g.2.2.2) : ∀ (n : Nat) (xs : List sp_X) (left : Nat), xs.length + n = 4 → sp_ext T0 g.1 g.2.1 q n xs left = rf_full g T0 q n xs left := by
  intro n
  induction n with
  | zero => intro xs left _; rfl
  | succ n ih =>
    intro xs left hl
    have hwc := hw.2.2.2.2 q hq
    have hc5 : q.2.2.2.2 ≤ 5 := hwc.2.2.2.2.2
    rw [sp_ext]
    by_cases hgd : (if sp_ah q xs.length = 0 then left ≠ 0 else left < sp_ah q xs.length)
    · rw [if_pos hgd, rf_full_gd hw hq (n + 1) xs left hl hgd]
    · rw [if_neg hgd]
      by_cases hho : (sp_par q xs.length = 10 ∨ q.2.2.2.2 ≠ 5) ∧ sp_cond q.2.2.2.2 xs = false
      · rw [if_pos hho]
        rcases hho.1 with h10 | h5
        · show [] = (if sp_par q xs.length = 10 then (if left = 0 ∧ sp_cond q.2.2.2.2 xs = true then [xs] else []) else _)
          rw [if_pos h10, if_neg (fun z => by rw [hho.2] at z; cases z.2)]
        · rw [rf_full_no h5 hho.2]
      · rw [if_neg hho]
        show _ = (if sp_par q xs.length = 10 then (if left = 0 ∧ sp_cond q.2.2.2.2 xs = true then [xs] else []) else (rf_xc g T0 (sp_par q xs.length)).flatMap (fun a => if sp_size a ≤ left then rf_full g T0 q n (xs ++ a) (left - sp_size a) else []))
        by_cases h10 : sp_par q xs.length = 10
        · rw [if_pos h10, if_pos h10]
          rw [sp_ah10 hwc h10, if_pos rfl] at hgd
          have hl0 : left = 0 := by omega
          have hct : sp_cond q.2.2.2.2 xs = true := by
            cases hcc : sp_cond q.2.2.2.2 xs with
            | true => rfl
            | false => exact absurd ⟨Or.inl h10, hcc⟩ hho
          rw [if_pos ⟨hl0, hct⟩]
        · rw [if_neg h10, if_neg h10]
          have hk3 := rf_par3 h10
          unfold rf_xc
          rw [if_neg h10]
          by_cases h9 : sp_par q xs.length = 9
          · rw [if_pos h9, if_pos h9, List.flatMap_map]
            refine rf_flat_congr (fun m _ => ?_)
            show _ = (if sp_size [Sum.inl m] ≤ left then rf_full g T0 q n (xs ++ [Sum.inl m]) (left - sp_size [Sum.inl m]) else [])
            rw [show sp_size [Sum.inl m] = 0 from rfl, if_pos (Nat.zero_le _), Nat.sub_zero]
            exact ih _ _ (by simp; omega)
          · rw [if_neg h9, if_neg h9, List.flatMap_map]
            have hlt : sp_par q xs.length < 9 := by
              have := hw.2.2.1
              rcases hwc.2.1 _ hk3 with z | z | z <;> omega
            have hah := sp_ah_t hk3 hlt
            rw [hah, if_neg (by omega)] at hgd
            obtain ⟨aw, haw⟩ : ∃ aw, aw = sp_ah q (xs.length + 1) := ⟨_, rfl⟩
            rw [← haw] at hah hgd
            rw [hah]
            have hF : ∀ v e, T0[v]? = some e → (fun v => if sp_size [Sum.inr (sp_att v (rf_e T0 v))] ≤ left then rf_full g T0 q n (xs ++ [Sum.inr (sp_att v (rf_e T0 v))]) (left - sp_size [Sum.inr (sp_att v (rf_e T0 v))]) else []) v = (if sp_sz e ≤ left then rf_full g T0 q n (xs ++ [.inr (sp_att v e)]) (left - sp_sz e) else []) := by
              intro v e he
              have : rf_e T0 v = e := by unfold rf_e; rw [he]; rfl
              show (if sp_size [Sum.inr (sp_att v (rf_e T0 v))] ≤ left then rf_full g T0 q n (xs ++ [Sum.inr (sp_att v (rf_e T0 v))]) (left - sp_size [Sum.inr (sp_att v (rf_e T0 v))]) else []) = _
              rw [this]
              rfl
            have hgd2 : ∀ v e, T0[v]? = some e → sp_sz e ≤ left → (if aw = 0 then left - sp_sz e ≠ 0 else left - sp_sz e < aw) → rf_full g T0 q n (xs ++ [.inr (sp_att v e)]) (left - sp_sz e) = [] := fun v e he hle hgg => by
              refine rf_full_gd hw hq n _ _ (by simp; omega) ?_
              rw [List.length_append]
              show (if sp_ah q (xs.length + 1) = 0 then left - sp_sz e ≠ 0 else left - sp_sz e < sp_ah q (xs.length + 1))
              rw [← haw]; exact hgg
            refine Eq.trans ?_ (rf_flat (sp_of T0 (sp_par q xs.length)) _ (sp_upto T0 (sp_par q xs.length) ((if 1 + aw = 1 then left else 1) - 1)) (sp_upto T0 (sp_par q xs.length) (left - (1 + aw - 1))) ?_ ?_).symm
            · refine rf_flat_congr (fun v hv => ?_)
              obtain ⟨i, hi⟩ := List.getElem?_of_mem (List.mem_of_mem_take (List.mem_of_mem_drop hv))
              obtain ⟨e, f1, f2, f3⟩ := sp_of_at hi
              refine Eq.trans ?_ (hF v e f1).symm
              rw [f1]
              show (if sp_clash q.2.2.2.2 xs (sp_att v e) then [] else sp_ext T0 g.1 g.2.1 q n (xs ++ [.inr (sp_att v e)]) (left - sp_sz e)) = _
              have hle : sp_sz e ≤ left := by
                obtain ⟨j, hj⟩ := List.getElem?_of_mem (List.mem_of_mem_drop hv)
                have hjl := (List.getElem?_eq_some_iff.mp hj).1
                rw [List.length_take] at hjl
                rw [List.getElem?_take_of_lt (by omega)] at hj
                obtain ⟨e', g1, g2, g3, g4⟩ := sp_upto_in hs hj (z := left - (1 + aw - 1)) (by omega)
                rw [f1] at g1; cases g1; omega
              rw [if_pos hle]
              by_cases hcl : sp_clash q.2.2.2.2 xs (sp_att v e) = true
              · rw [if_pos hcl]
                obtain ⟨c1, c2⟩ := sp_clash_cond hc5 hcl
                rw [rf_full_no c1 c2]
              · rw [if_neg hcl]
                exact ih _ _ (by simp; omega)
            · intro i v hi hv
              obtain ⟨e, f1, f2, f3⟩ := sp_of_at hv
              refine (hF v e f1).trans ?_
              obtain ⟨e', g1, g2, g3, g4⟩ := sp_upto_in hs hv hi
              rw [f1] at g1; cases g1
              have hsz : 1 ≤ sp_sz e := by unfold sp_sz; omega
              by_cases haw0 : aw = 0
              · rw [if_pos (by omega)] at g4
                by_cases hle : sp_sz e ≤ left
                · rw [if_pos hle]
                  refine hgd2 v e f1 hle ?_
                  rw [if_pos haw0]; omega
                · rw [if_neg hle]
              · rw [if_neg (by omega)] at g4
                omega
            · intro i v hi hv
              obtain ⟨e, f1, f2, f3⟩ := sp_of_at hv
              refine (hF v e f1).trans ?_
              by_cases hle : sp_sz e ≤ left
              · rw [if_pos hle]
                refine hgd2 v e f1 hle ?_
                have hbig : left - (1 + aw - 1) < sp_sz e := by
                  refine Decidable.byContradiction (fun hn => ?_)
                  have h3 := sp_rk_upto hs f1 (z := left - (1 + aw - 1)) (by omega)
                  have h4 := (sp_rk_of hv).2.2
                  rw [f2] at h3
                  omega
                by_cases haw0 : aw = 0
                · rw [if_pos haw0]; omega
                · rw [if_neg haw0]; omega
              · rw [if_neg hle]
theorem rf_xc10 (g : sp_G) (T0 : List sp_E) : rf_xc g T0 10 = [[]] := rfl
/-- each choice has as many arguments as its parameter asks -/
theorem rf_xc_len {g : sp_G} {T0 : List sp_E} {p : Nat} (hp : p ≠ 10) {a : List sp_X} (ha : a ∈ rf_xc g T0 p) : a.length = 1 := by
  unfold rf_xc at ha
  rw [if_neg hp] at ha
  by_cases h9 : p = 9
  · rw [if_pos h9] at ha
    obtain ⟨k, -, rfl⟩ := List.mem_map.mp ha; rfl
  · rw [if_neg h9] at ha
    obtain ⟨k, -, rfl⟩ := List.mem_map.mp ha; rfl
theorem rf_cand_eq {g : sp_G} (hw : sp_wg g) {T0 : List sp_E} {q : sp_C} (hq : q ∈ g.2.2.2) (s : Nat) : rf_full g T0 q 4 [] s = rf_cand g T0 q s := by
  have hwc := hw.2.2.2.2 q hq
  have g1 := hwc.2.2.1
  have g2 := hwc.2.2.2.1
  unfold rf_cand
  have st : ∀ n xs left, rf_full g T0 q (n + 1) xs left = (if sp_par q xs.length = 10 then (if left = 0 ∧ sp_cond q.2.2.2.2 xs = true then [xs] else []) else (rf_xc g T0 (sp_par q xs.length)).flatMap (fun a => if sp_size a ≤ left then rf_full g T0 q n (xs ++ a) (left - sp_size a) else [])) := fun _ _ _ => rfl
  have e0 : sp_par q ([] : List sp_X).length = q.2.1 := rfl
  rw [st, e0]
  by_cases h0 : q.2.1 = 10
  · have h1 := g1 h0
    have h2 := g2 h1
    rw [if_pos h0, h0, h1, h2, rf_xc10]
    simp only [List.flatMap_cons, List.flatMap_nil, List.append_nil]
    show _ = (if s < 0 + 0 then [] else if 0 + 0 + 0 = s ∧ sp_cond q.2.2.2.2 ([] ++ [] ++ []) = true then [[] ++ [] ++ []] else [])
    rw [if_neg (show ¬ s < 0 + 0 by omega)]
    show _ = (if 0 = s ∧ sp_cond q.2.2.2.2 [] = true then [[]] else [])
    by_cases z : s = 0
    · subst z; rfl
    · rw [if_neg (fun y => z y.1), if_neg (fun y => z y.1.symm)]
  · rw [if_neg h0]
    refine rf_flat_congr (fun a ha => ?_)
    have hal := rf_xc_len h0 ha
    by_cases hsa : sp_size a ≤ s
    · rw [if_pos hsa, List.nil_append, st, hal]
      have e1 : sp_par q 1 = q.2.2.1 := rfl
      rw [e1]
      by_cases h1 : q.2.2.1 = 10
      · have h2 := g2 h1
        rw [if_pos h1, h1, h2, rf_xc10]
        simp only [List.flatMap_cons, List.flatMap_nil, List.append_nil]
        show _ = (if s < sp_size a + 0 then [] else if sp_size a + 0 + 0 = s ∧ sp_cond q.2.2.2.2 a = true then [a] else [])
        rw [if_neg (show ¬ s < sp_size a + 0 by omega)]
        by_cases z : sp_size a = s
        · rw [z, Nat.sub_self]
          by_cases y : sp_cond q.2.2.2.2 a = true
          · rw [if_pos ⟨rfl, y⟩, if_pos ⟨rfl, y⟩]
          · rw [if_neg (fun w => y w.2), if_neg (fun w => y w.2)]
        · rw [if_neg (fun w => by have := w.1; omega), if_neg (fun w => by have := w.1; omega)]
      · rw [if_neg h1]
        refine rf_flat_congr (fun b hb => ?_)
        have hbl := rf_xc_len h1 hb
        by_cases hsb : sp_size b ≤ s - sp_size a
        · rw [if_pos hsb, if_neg (show ¬ s < sp_size a + sp_size b by omega), st, List.length_append, hal, hbl]
          have e2 : sp_par q (1 + 1) = q.2.2.2.1 := rfl
          rw [e2]
          by_cases h2 : q.2.2.2.1 = 10
          · rw [if_pos h2, h2, rf_xc10]
            simp only [List.flatMap_cons, List.flatMap_nil, List.append_nil]
            show _ = (if sp_size a + sp_size b + 0 = s ∧ sp_cond q.2.2.2.2 (a ++ b) = true then [a ++ b] else [])
            by_cases z : sp_size a + sp_size b = s
            · by_cases y : sp_cond q.2.2.2.2 (a ++ b) = true
              · rw [if_pos ⟨by omega, y⟩, if_pos ⟨by omega, y⟩]
              · rw [if_neg (fun w => y w.2), if_neg (fun w => y w.2)]
            · rw [if_neg (fun w => by have := w.1; omega), if_neg (fun w => by have := w.1; omega)]
          · rw [if_neg h2]
            refine rf_flat_congr (fun z hz => ?_)
            have hzl := rf_xc_len h2 hz
            by_cases hsz : sp_size z ≤ s - sp_size a - sp_size b
            · rw [if_pos hsz, st, List.length_append, List.length_append, hal, hbl, hzl]
              have e3 : sp_par q (1 + 1 + 1) = 10 := rfl
              rw [if_pos e3]
              by_cases w : sp_size a + sp_size b + sp_size z = s
              · by_cases y : sp_cond q.2.2.2.2 (a ++ b ++ z) = true
                · rw [if_pos ⟨by omega, y⟩, if_pos ⟨by omega, y⟩]
                · rw [if_neg (fun w => y w.2), if_neg (fun w => y w.2)]
              · rw [if_neg (fun x => by have := x.1; omega), if_neg (fun x => by have := x.1; omega)]
            · rw [if_neg hsz, if_neg (fun x => by have := x.1; omega)]
        · rw [if_neg hsb, if_pos (by omega)]
    · rw [if_neg hsa]
      refine (List.flatMap_eq_nil_iff.mpr (fun b _ => ?_)).symm
      rw [if_pos (by omega)]
theorem rf_cand_ext {g : sp_G} (hw : sp_wg g) {T0 : List sp_E} (hs : sp_srt T0) {q : sp_C} (hq : q ∈ g.2.2.2) (s : Nat) : sp_ext T0 g.1 g.2.1 q 4 [] s = rf_cand g T0 q s := (rf_ext hw hs hq 4 [] s rfl).trans (rf_cand_eq hw hq s)
