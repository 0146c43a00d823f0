/-! ===== the room: values of one type, size and height ===== -/
theorem nd_map {α β : Type} {f : α → β} : ∀ {M : List α}, M.Nodup → (∀ a ∈ M, ∀ b ∈ M, f a = f b → a = b) → (M.map f).Nodup := by
  intro M
  induction M with
  | nil => intro _ _; exact List.nodup_nil
  | cons a M ih =>
    intro h hf
    obtain ⟨h1, h2⟩ := List.nodup_cons.mp h
    rw [List.map_cons]
    refine List.nodup_cons.mpr ⟨fun hm => ?_, ih h2 (fun x hx y hy => hf x (List.mem_cons_of_mem _ hx) y (List.mem_cons_of_mem _ hy))⟩
    obtain ⟨b, hb, e⟩ := List.mem_map.mp hm
    have := hf b (List.mem_cons_of_mem _ hb) a List.mem_cons_self e
    rw [this] at hb
    exact h1 hb
theorem nd_prod {α β : Type} {f : β → α} {M : List (List α)} (hM : M.Nodup) : ∀ {L : List β}, L.Nodup → (∀ a ∈ L, ∀ b ∈ L, f a = f b → a = b) → (L.flatMap (fun u => M.map (fun m => f u :: m))).Nodup ∧ (L.flatMap (fun u => M.map (fun m => f u :: m))).length = L.length * M.length := by
  intro L
  induction L with
  | nil => intro _ _; exact ⟨List.nodup_nil, (Nat.zero_mul _).symm⟩
  | cons a L ih =>
    intro h hf
    obtain ⟨h1, h2⟩ := List.nodup_cons.mp h
    obtain ⟨i1, i2⟩ := ih h2 (fun x hx y hy => hf x (List.mem_cons_of_mem _ hx) y (List.mem_cons_of_mem _ hy))
    rw [List.flatMap_cons]
    refine ⟨List.nodup_append.mpr ⟨nd_map hM (fun x _ y _ e => (List.cons.inj e).2), i1, fun x hx y hy e => ?_⟩, ?_⟩
    · obtain ⟨m, -, rfl⟩ := List.mem_map.mp hx
      obtain ⟨u, hu, hy⟩ := List.mem_flatMap.mp hy
      obtain ⟨m', -, rfl⟩ := List.mem_map.mp hy
      have := hf a List.mem_cons_self u (List.mem_cons_of_mem _ hu) (List.cons.inj e).1
      rw [← this] at hu
      exact h1 hu
    · rw [List.length_append, List.length_map, i2, List.length_cons, Nat.add_mul, Nat.one_mul, Nat.add_comm]
theorem nd_len {α : Type} : ∀ {L M : List α}, L.Nodup → (∀ x ∈ L, x ∈ M) → L.length ≤ M.length := by
  intro L
  induction L with
  | nil => intro M _ _; exact Nat.zero_le _
  | cons a L ih =>
    intro M h hs
    obtain ⟨h1, h2⟩ := List.nodup_cons.mp h
    obtain ⟨p, r, e⟩ := List.append_of_mem (hs a List.mem_cons_self)
    have := ih (M := p ++ r) h2 (fun x hx => by
      have z := hs x (List.mem_cons_of_mem _ hx)
      rw [e] at z
      rcases List.mem_append.mp z with z | z
      · exact List.mem_append_left _ z
      · rcases List.mem_cons.mp z with z | z
        · rw [z] at hx; exact absurd hx h1
        · exact List.mem_append_right _ z)
    rw [e, List.length_append, List.length_cons, List.length_cons]
    rw [List.length_append] at this
    omega
theorem cnt_rng (T : List sp_E) (p : sp_E → Bool) : ∀ n, (List.range n).countP (fun u => match T[u]? with
    | some e => p e
    | none => false) = (T.take n).countP p := by
  intro n
  induction n with
  | zero => rfl
  | succ n ih =>
    rw [List.range_succ, List.countP_append, ih, List.take_add_one, List.countP_append]
    congr 1
    cases h : T[n]? with
    | none => simp [h]
    | some e => simp [List.countP_cons, h]
/-- of v's type, size and height -/
def sib (g : sp_G) (v u : Nat) : Prop := ∃ e f, (sp_tab g).1[v]? = some e ∧ (sp_tab g).1[u]? = some f ∧ f.1 = e.1 ∧ sp_size f.2.2 = sp_size e.2.2 ∧ sp_max (sp_hts f.2.2) = sp_max (sp_hts e.2.2)
def Fam (g : sp_G) (v B : Nat) : Prop := ∃ L : List Nat, L.Nodup ∧ (∀ u ∈ L, sib g v u) ∧ B ≤ L.length
theorem fam_mono {g : sp_G} {v B B' : Nat} (h : Fam g v B) (hb : B' ≤ B) : Fam g v B' := by
  obtain ⟨L, a, b, c⟩ := h
  exact ⟨L, a, b, Nat.le_trans hb c⟩
theorem fam_one {g : sp_G} {v : Nat} (hv : v < (sp_tab g).1.length) : Fam g v 1 := by
  have he : (sp_tab g).1[v]? = some (sp_tab g).1[v] := List.getElem?_eq_getElem hv
  refine ⟨[v], List.nodup_cons.mpr ⟨List.not_mem_nil, List.nodup_nil⟩, fun u hu => ?_, Nat.le_refl _⟩
  have : u = v := by simpa using hu
  rw [this]
  exact ⟨_, _, he, he, rfl, rfl, rfl⟩
theorem fam_cz {g : sp_G} {v B : Nat} (h : Fam g v B) : B ≤ cz (zs (sp_tab g).1 v) (sp_tab g).1 := by
  obtain ⟨L, a, b, c⟩ := h
  refine Nat.le_trans c ?_
  have h1 := nd_len (M := (List.range (sp_tab g).1.length).filter (fun u => match (sp_tab g).1[u]? with
    | some e => decide (sp_sz e = zs (sp_tab g).1 v)
    | none => false)) a (fun u hu => by
      obtain ⟨e, f, e1, e2, e3, e4, e5⟩ := b u hu
      refine List.mem_filter.mpr ⟨List.mem_range.mpr (List.getElem?_eq_some_iff.mp e2).1, ?_⟩
      rw [e2]
      refine decide_eq_true ?_
      unfold sp_sz zs
      rw [xo_eq e1, e4])
  rw [← List.countP_eq_length_filter, cnt_rng _ (fun e => decide (sp_sz e = zs (sp_tab g).1 v)), List.take_length] at h1
  exact h1
theorem fam_300 {g : sp_G} (hg : sp_wg g) {v B : Nat} (h : Fam g v B) : B ≤ 300 :=
  Nat.le_trans (fam_cz h) (Nat.le_trans List.countP_le_length (tb_ok hg).1.1)
/-- a list of argument lists of one constructor -/
theorem fam_of {g : sp_G} {v : Nat} {e : sp_E} (he : (sp_tab g).1[v]? = some e) {M : List (List sp_X)} (hn : M.Nodup) (hM : ∀ xs ∈ M, (e.1, e.2.1, xs) ∈ (sp_tab g).1 ∧ sp_size xs = sp_size e.2.2 ∧ sp_hts xs = sp_hts e.2.2) : Fam g v M.length := by
  have key : ∀ M : List (List sp_X), M.Nodup → (∀ xs ∈ M, (e.1, e.2.1, xs) ∈ (sp_tab g).1) → ∃ L : List Nat, L.Nodup ∧ L.length = M.length ∧ ∀ u ∈ L, ∃ xs ∈ M, (sp_tab g).1[u]? = some (e.1, e.2.1, xs) := by
    intro M
    induction M with
    | nil => intro _ _; exact ⟨[], List.nodup_nil, rfl, fun u hu => absurd hu List.not_mem_nil⟩
    | cons xs M ih =>
      intro h hm
      obtain ⟨h1, h2⟩ := List.nodup_cons.mp h
      obtain ⟨L, l1, l2, l3⟩ := ih h2 (fun x hx => hm x (List.mem_cons_of_mem _ hx))
      obtain ⟨u, hu⟩ := List.getElem?_of_mem (hm xs List.mem_cons_self)
      refine ⟨u :: L, List.nodup_cons.mpr ⟨fun z => ?_, l1⟩, by rw [List.length_cons, List.length_cons, l2], fun x hx => ?_⟩
      · obtain ⟨ys, y1, y2⟩ := l3 u z
        rw [hu] at y2
        injection y2 with y2
        injection y2 with _ y2
        injection y2 with _ y2
        rw [← y2] at y1
        exact h1 y1
      · rcases List.mem_cons.mp hx with z | z
        · rw [z]; exact ⟨xs, List.mem_cons_self, hu⟩
        · obtain ⟨ys, y1, y2⟩ := l3 x z
          exact ⟨ys, List.mem_cons_of_mem _ y1, y2⟩
  obtain ⟨L, l1, l2, l3⟩ := key M hn (fun xs hx => (hM xs hx).1)
  refine ⟨L, l1, fun u hu => ?_, Nat.le_of_eq l2.symm⟩
  obtain ⟨xs, x1, x2⟩ := l3 u hu
  obtain ⟨-, m2, m3⟩ := hM xs x1
  exact ⟨e, _, he, x2, rfl, m2, by rw [m3]⟩
/-- well-typed arguments -/
def tyg (g : sp_G) (par : Nat → Nat) (xs : List sp_X) : Prop := ∀ (j : Nat) (x : sp_X), xs[j]? = some x → match x with
  | .inl n => par j = 9 ∧ g.1 ≤ n ∧ n ≤ g.2.1
  | .inr p => par j < 4 ∧ ∃ e', (sp_tab g).1[p.1]? = some e' ∧ e'.1 = par j ∧ p = sp_att p.1 e'
theorem tyg_tl {g : sp_G} {par : Nat → Nat} {x : sp_X} {r : List sp_X} (h : tyg g par (x :: r)) : tyg g (fun j => par (j + 1)) r := fun j y hj => h (j + 1) y hj
theorem tyg_l {g : sp_G} {par : Nat → Nat} {n : Nat} {r : List sp_X} (h : tyg g par (.inl n :: r)) : par 0 = 9 ∧ g.1 ≤ n ∧ n ≤ g.2.1 := h 0 _ rfl
theorem tyg_r {g : sp_G} {par : Nat → Nat} {p : Nat × Nat × Nat × List Nat} {r : List sp_X} (h : tyg g par (.inr p :: r)) : par 0 < 4 ∧ ∃ e', (sp_tab g).1[p.1]? = some e' ∧ e'.1 = par 0 ∧ p = sp_att p.1 e' := h 0 _ rfl
theorem tyg_cl {g : sp_G} {par : Nat → Nat} {n : Nat} {r : List sp_X} (h : par 0 = 9 ∧ g.1 ≤ n ∧ n ≤ g.2.1) (hr : tyg g (fun j => par (j + 1)) r) : tyg g par (.inl n :: r) := by
  intro j x hj
  cases j with
  | zero => cases hj; exact h
  | succ j => exact hr j x hj
theorem tyg_cr {g : sp_G} {par : Nat → Nat} {p : Nat × Nat × Nat × List Nat} {r : List sp_X} (h : par 0 < 4 ∧ ∃ e', (sp_tab g).1[p.1]? = some e' ∧ e'.1 = par 0 ∧ p = sp_att p.1 e') (hr : tyg g (fun j => par (j + 1)) r) : tyg g par (.inr p :: r) := by
  intro j x hj
  cases j with
  | zero => cases hj; exact h
  | succ j => exact hr j x hj
theorem tyg_nil {g : sp_G} {par : Nat → Nat} : tyg g par [] := fun j x hj => by simp at hj
/-- the arguments that are values -/
def ars : List sp_X → List (Nat × Nat × Nat × List Nat)
  | [] => []
  | .inl _ :: r => ars r
  | .inr q :: r => q :: ars r
theorem ars_in {xs : List sp_X} {q : Nat × Nat × Nat × List Nat} (h : q ∈ ars xs) : .inr q ∈ xs := by
  induction xs with
  | nil => cases h
  | cons x r ih =>
    cases x with
    | inl n => exact List.mem_cons_of_mem _ (ih h)
    | inr p =>
      rcases List.mem_cons.mp h with z | z
      · rw [z]; exact List.mem_cons_self
      · exact List.mem_cons_of_mem _ (ih z)
def bpr (b : Nat → Nat) : List (Nat × Nat × Nat × List Nat) → Nat
  | [] => 1
  | q :: r => b q.1 * bpr b r
/-- u as an argument -/
def ag (g : sp_G) (u : Nat) : Nat × Nat × Nat × List Nat := match (sp_tab g).1[u]? with
  | some f => sp_att u f
  | none => (u, 0, 0, [])
theorem ag_1 (g : sp_G) (u : Nat) : (ag g u).1 = u := by
  unfold ag
  split <;> rfl
theorem ag_sib {g : sp_G} {p : Nat × Nat × Nat × List Nat} {t u : Nat} (ht : t < 4) {e' : sp_E} (h1 : (sp_tab g).1[p.1]? = some e') (h2 : e'.1 = t) (h3 : p = sp_att p.1 e') (hu : sib g p.1 u) : (t < 4 ∧ ∃ f, (sp_tab g).1[(ag g u).1]? = some f ∧ f.1 = t ∧ ag g u = sp_att (ag g u).1 f) ∧ (ag g u).2.1 = p.2.1 ∧ (ag g u).2.2.1 = p.2.2.1 := by
  obtain ⟨e, f, e1, e2, e3, e4, e5⟩ := hu
  rw [h1] at e1
  cases e1
  have ea : ag g u = sp_att u f := by unfold ag; rw [e2]
  refine ⟨⟨ht, f, by rw [ag_1]; exact e2, e3.trans h2, by rw [ag_1]; exact ea⟩, ?_, ?_⟩
  · rw [ea, h3]; show 1 + sp_size f.2.2 = 1 + sp_size e'.2.2; rw [e4]
  · rw [ea, h3]; show 1 + sp_max (sp_hts f.2.2) = 1 + sp_max (sp_hts e'.2.2); rw [e5]
/-- as xs, with other ints and other values of the same size and height -/
def vr (g : sp_G) (par : Nat → Nat) (xs ys : List sp_X) : Prop := tyg g par ys ∧ ys.length = xs.length ∧ sp_size ys = sp_size xs ∧ sp_hts ys = sp_hts xs ∧ own ys = own xs
theorem vr_l {g : sp_G} {par : Nat → Nat} {n m : Nat} {r ys : List sp_X} (h : par 0 = 9 ∧ g.1 ≤ m ∧ m ≤ g.2.1) (hr : vr g (fun j => par (j + 1)) r ys) : vr g par (.inl n :: r) (.inl m :: ys) := by
  obtain ⟨a, b, c, d, e⟩ := hr
  refine ⟨tyg_cl h a, by rw [List.length_cons, List.length_cons, b], c, d, ?_⟩
  rw [own_inl, own_inl, e]
theorem vr_r {g : sp_G} {par : Nat → Nat} {p q : Nat × Nat × Nat × List Nat} {r ys : List sp_X} (h : par 0 < 4 ∧ ∃ e', (sp_tab g).1[p.1]? = some e' ∧ e'.1 = par 0 ∧ p = sp_att p.1 e') (h2 : p.2.1 = q.2.1) (h3 : p.2.2.1 = q.2.2.1) (hr : vr g (fun j => par (j + 1)) r ys) : vr g par (.inr q :: r) (.inr p :: ys) := by
  obtain ⟨a, b, c, d, e⟩ := hr
  refine ⟨tyg_cr h a, by rw [List.length_cons, List.length_cons, b], ?_, ?_, ?_⟩
  · show p.2.1 + sp_size ys = q.2.1 + sp_size r; rw [h2, c]
  · show p.2.2.1 :: sp_hts ys = q.2.2.1 :: sp_hts r; rw [h3, d]
  · rw [own_inr, own_inr, e]
