/-! ===== the room: a value's arguments, counted ===== -/
theorem ars_len (xs : List sp_X) : own xs + (ars xs).length = xs.length := by
  induction xs with
  | nil => rfl
  | cons x r ih =>
    cases x with
    | inl n => rw [own_inl]; show own r + 1 + (ars r).length = r.length + 1; omega
    | inr q => rw [own_inr]; show own r + ((ars r).length + 1) = r.length + 1; omega
theorem ars_own0 {xs : List sp_X} (h : own xs = 0) : xs = (ars xs).map .inr := by
  induction xs with
  | nil => rfl
  | cons x r ih =>
    cases x with
    | inl n => rw [own_inl] at h; omega
    | inr q =>
      rw [own_inr] at h
      show .inr q :: r = .inr q :: (ars r).map .inr
      rw [← ih h]
theorem ars_hd {g : sp_G} {par : Nat → Nat} {x : sp_X} {r : List sp_X} (h : tyg g par (x :: r)) : (ars (x :: r)).length = sp_isT (par 0) + (ars r).length := by
  cases x with
  | inl n =>
    rw [rm_isT0 (by have := (tyg_l h).1; omega), Nat.zero_add]; rfl
  | inr q =>
    rw [rm_isT1 (by have := (tyg_r h).1; omega), Nat.add_comm]; rfl
theorem ars_rt {g : sp_G} {ty : Nat} {q : sp_C} (hq : sp_wc ty q) {xs : List sp_X} (hl : xs.length = sp_ar q) (h : tyg g (sp_par q) xs) : (ars xs).length = rm_t q := by
  have h1 := hq.2.2.1
  have h2 := hq.2.2.2.1
  have t10 : sp_isT 10 = 0 := rfl
  unfold sp_ar at hl
  unfold rm_t
  by_cases c1 : q.2.1 = 10
  · rw [if_pos c1] at hl
    rw [List.length_eq_zero_iff.mp hl, c1, h1 c1, h2 (h1 c1)]; rfl
  · rw [if_neg c1] at hl
    by_cases c2 : q.2.2.1 = 10
    · rw [if_pos c2] at hl
      match xs, hl, h with
      | [x], _, h =>
        rw [ars_hd h, c2, h2 c2, t10]; rfl
    · rw [if_neg c2] at hl
      by_cases c3 : q.2.2.2.1 = 10
      · rw [if_pos c3] at hl
        match xs, hl, h with
        | [x, y], _, h =>
          rw [ars_hd h, ars_hd (tyg_tl h), c3, t10]
          show sp_isT q.2.1 + (sp_isT q.2.2.1 + 0) = _
          omega
      · rw [if_neg c3] at hl
        match xs, hl, h with
        | [x, y, z], _, h =>
          rw [ars_hd h, ars_hd (tyg_tl h), ars_hd (tyg_tl (tyg_tl h))]
          show sp_isT q.2.1 + (sp_isT q.2.2.1 + (sp_isT q.2.2.2.1 + 0)) = _
          omega
theorem sz_ars (xs : List sp_X) : sp_size xs = ((ars xs).map (fun q => q.2.1)).sum := by
  induction xs with
  | nil => rfl
  | cons x r ih =>
    cases x with
    | inl n => exact ih
    | inr q => show q.2.1 + sp_size r = _; rw [ih]; rfl
theorem nn_ars (xs : List sp_X) : (sp_ints xs).length = own xs + ((ars xs).map (fun q => q.2.2.2.length)).sum := by
  induction xs with
  | nil => rfl
  | cons x r ih =>
    cases x with
    | inl n =>
      rw [own_inl]
      show (sp_ints r).length + 1 = own r + 1 + ((ars r).map _).sum
      omega
    | inr q =>
      rw [own_inr]
      show (q.2.2.2 ++ sp_ints r).length = own r + (q.2.2.2.length + ((ars r).map _).sum)
      rw [List.length_append]
      omega
theorem ms_ars {F : sp_X → Nat} {c : Nat} : ∀ {xs : List sp_X}, (∀ n, .inl n ∈ xs → F (.inl n) ≤ c) → (xs.map F).sum ≤ c * own xs + ((ars xs).map (fun q => F (.inr q))).sum := by
  intro xs
  induction xs with
  | nil => intro _; exact Nat.zero_le _
  | cons x r ih =>
    intro h
    have h2 := ih (fun n hn => h n (List.mem_cons_of_mem _ hn))
    rw [List.map_cons, List.sum_cons]
    cases x with
    | inl n =>
      have h1 := h n List.mem_cons_self
      rw [own_inl, Nat.mul_succ]
      show _ ≤ _ + ((ars r).map _).sum
      omega
    | inr q =>
      rw [own_inr]
      show _ ≤ _ + (F (.inr q) + ((ars r).map _).sum)
      omega
theorem asc_tl {a : Nat} : ∀ {l : List Nat}, sp_asc (a :: l) = true → sp_asc l = true ∧ ∀ x ∈ l, a < x := by
  intro l
  induction l generalizing a with
  | nil => intro _; exact ⟨rfl, fun x hx => absurd hx List.not_mem_nil⟩
  | cons c l ih =>
    intro h
    have h : (decide (a < c) && sp_asc (c :: l)) = true := h
    rw [Bool.and_eq_true] at h
    have hac := of_decide_eq_true h.1
    refine ⟨h.2, fun x hx => ?_⟩
    rcases List.mem_cons.mp hx with z | z
    · omega
    · have := (ih h.2).2 x z; omega
/-- ascending ints: how many, and how high -/
theorem asc_dn (lo w : Nat) : ∀ (l : List Nat) (b : Nat), sp_asc l = true → b ≤ w + 1 → (∀ a ∈ l, lo + b ≤ a ∧ a ≤ lo + w) → l.length + b ≤ w + 1 ∧ (l.map (fun x => x - lo)).sum + l.length * (l.length - 1) / 2 ≤ w * l.length := by
  intro l
  induction l with
  | nil => intro b _ hb _; exact ⟨by show 0 + b ≤ w + 1; omega, Nat.zero_le _⟩
  | cons a l ih =>
    intro b hs hb h
    obtain ⟨s1, s2⟩ := asc_tl hs
    have h1 := h a List.mem_cons_self
    obtain ⟨i1, i2⟩ := ih (a - lo + 1) s1 (by omega) (fun x hx => by
      have := s2 x hx
      have := h x (List.mem_cons_of_mem _ hx)
      omega)
    rw [List.map_cons, List.sum_cons, List.length_cons]
    have e : (l.length + 1) * (l.length + 1 - 1) / 2 = l.length * (l.length - 1) / 2 + l.length := by
      cases hl : l.length with
      | zero => rfl
      | succ n =>
        rw [Nat.add_sub_cancel, Nat.add_sub_cancel]
        have : (n + 1 + 1) * (n + 1) = (n + 1) * n + (n + 1) * 2 := by rw [← Nat.mul_add, Nat.mul_comm]
        rw [this, Nat.add_mul_div_right _ _ (by decide)]
    rw [e, Nat.mul_succ]
    omega
theorem half_n (n : Nat) : n * (n - 1) / 2 * 2 = n * (n - 1) := by
  have : n * (n - 1) % 2 = 0 := by
    cases n with
    | zero => rfl
    | succ n =>
      rw [Nat.add_sub_cancel, Nat.mul_mod]
      rcases Nat.mod_two_eq_zero_or_one n with z | z
      · rw [z, Nat.mul_zero]
      · rw [show (n + 1) % 2 = 0 by omega, Nat.zero_mul]
  omega
/-- of an ordered value -/
theorem od_up {g : sp_G} (hg : sp_wg g) {v : Nat} (hv : v < (sp_tab g).1.length) (h1 : cdn g v = 1) : nn (sp_tab g).1 v ≤ g.2.1 - g.1 + 1 ∧ up g v - nn (sp_tab g).1 v * (nn (sp_tab g).1 v - 1) / 2 ≤ nn (sp_tab g).1 v * (g.2.1 - g.1 + 1 - nn (sp_tab g).1 v) := by
  have hc := cdn_h hg hv
  rw [h1] at hc
  have hlo := hg.1
  obtain ⟨a, b⟩ := asc_dn g.1 (g.2.1 - g.1) (sp_ints (sp_xo (sp_tab g).1 v)) 0 hc (by omega) (fun x hx => by
    have := it_lo hg hv x hx
    omega)
  have a : nn (sp_tab g).1 v + 0 ≤ g.2.1 - g.1 + 1 := a
  have b : up g v + nn (sp_tab g).1 v * (nn (sp_tab g).1 v - 1) / 2 ≤ (g.2.1 - g.1) * nn (sp_tab g).1 v := b
  refine ⟨a, ?_⟩
  have hh := half_n (nn (sp_tab g).1 v)
  generalize nn (sp_tab g).1 v = n at a b hh ⊢
  generalize g.2.1 - g.1 = w at a b ⊢
  have e : n * (w + 1 - n) + n * (n - 1) = w * n := by
    cases n with
    | zero => simp
    | succ n =>
      rw [← Nat.mul_add, show w + 1 - (n + 1) + (n + 1 - 1) = w by omega, Nat.mul_comm]
  omega
