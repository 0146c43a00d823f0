/-! ===== the room: the family of a plain value ===== -/
/-- all ints free -/
theorem vx {g : sp_G} (hlo : g.1 ≤ g.2.1) {b : Nat → Nat} : ∀ (xs : List sp_X) (par : Nat → Nat), tyg g par xs → (∀ q ∈ ars xs, Fam g q.1 (b q.1)) → ∃ M : List (List sp_X), M.Nodup ∧ bpr b (ars xs) * (g.2.1 - g.1 + 1) ^ own xs ≤ M.length ∧ ∀ ys ∈ M, vr g par xs ys := by
  intro xs
  induction xs with
  | nil =>
    intro par _ _
    refine ⟨[[]], List.nodup_cons.mpr ⟨List.not_mem_nil, List.nodup_nil⟩, Nat.le_refl _, fun ys hy => ?_⟩
    have : ys = [] := by simpa using hy
    rw [this]
    exact ⟨tyg_nil, rfl, rfl, rfl, rfl⟩
  | cons x r ih =>
    intro par ht hb
    cases x with
    | inl n =>
      obtain ⟨M, m1, m2, m3⟩ := ih _ (tyg_tl ht) hb
      have hp := nd_prod (f := fun a => (Sum.inl (g.1 + a) : sp_X)) m1 (L := List.range (g.2.1 - g.1 + 1)) List.nodup_range (fun a _ c _ e => by injection e with e; omega)
      refine ⟨_, hp.1, ?_, fun ys hy => ?_⟩
      · rw [hp.2, List.length_range, own_inl, Nat.pow_succ, ← Nat.mul_assoc, Nat.mul_comm _ (g.2.1 - g.1 + 1)]
        exact Nat.mul_le_mul_left _ m2
      · obtain ⟨a, ha, hy⟩ := List.mem_flatMap.mp hy
        obtain ⟨zs', hz, rfl⟩ := List.mem_map.mp hy
        have := List.mem_range.mp ha
        exact vr_l ⟨(tyg_l ht).1, by omega, by omega⟩ (m3 _ hz)
    | inr p =>
      obtain ⟨M, m1, m2, m3⟩ := ih _ (tyg_tl ht) (fun q hq => hb q (List.mem_cons_of_mem _ hq))
      obtain ⟨L, l1, l2, l3⟩ := hb p List.mem_cons_self
      obtain ⟨t1, e', t2, t3, t4⟩ := tyg_r ht
      have hp := nd_prod (f := fun u => (Sum.inr (ag g u) : sp_X)) m1 (L := L) l1 (fun a _ c _ e => by
        injection e with e
        have := congrArg Prod.fst e
        rwa [ag_1, ag_1] at this)
      refine ⟨_, hp.1, ?_, fun ys hy => ?_⟩
      · rw [hp.2, own_inr]
        show b p.1 * bpr b (ars r) * _ ≤ _
        rw [Nat.mul_assoc]
        exact Nat.mul_le_mul l3 m2
      · obtain ⟨u, hu, hy⟩ := List.mem_flatMap.mp hy
        obtain ⟨zs', hz, rfl⟩ := List.mem_map.mp hy
        obtain ⟨a1, a2, a3⟩ := ag_sib t1 t2 t3 t4 (l2 u hu)
        exact vr_r a1 a2 a3 (m3 _ hz)
/-- the first own int the least -/
theorem vf {g : sp_G} (hlo : g.1 ≤ g.2.1) {b : Nat → Nat} : ∀ (xs : List sp_X) (par : Nat → Nat), tyg g par xs → (∀ q ∈ ars xs, Fam g q.1 (b q.1)) → ∃ M : List (List sp_X), M.Nodup ∧ bpr b (ars xs) * (g.2.1 - g.1 + 1) ^ (own xs - 1) ≤ M.length ∧ ∀ ys ∈ M, vr g par xs ys ∧ (own xs ≠ 0 → sp_fst ys = some g.1) := by
  intro xs
  induction xs with
  | nil =>
    intro par h1 h2
    obtain ⟨M, m1, m2, m3⟩ := vx hlo [] par h1 h2
    exact ⟨M, m1, m2, fun ys hy => ⟨m3 ys hy, fun z => absurd rfl z⟩⟩
  | cons x r ih =>
    intro par ht hb
    cases x with
    | inl n =>
      obtain ⟨M, m1, m2, m3⟩ := vx hlo r _ (tyg_tl ht) hb
      refine ⟨M.map (fun m => .inl g.1 :: m), nd_map m1 (fun a _ c _ e => (List.cons.inj e).2), ?_, fun ys hy => ?_⟩
      · rw [own_inl, Nat.add_sub_cancel, List.length_map]
        exact m2
      · obtain ⟨m, hm, rfl⟩ := List.mem_map.mp hy
        exact ⟨vr_l ⟨(tyg_l ht).1, Nat.le_refl _, hlo⟩ (m3 _ hm), fun _ => rfl⟩
    | inr p =>
      obtain ⟨M, m1, m2, m3⟩ := ih _ (tyg_tl ht) (fun q hq => hb q (List.mem_cons_of_mem _ hq))
      obtain ⟨L, l1, l2, l3⟩ := hb p List.mem_cons_self
      obtain ⟨t1, e', t2, t3, t4⟩ := tyg_r ht
      have hp := nd_prod (f := fun u => (Sum.inr (ag g u) : sp_X)) m1 (L := L) l1 (fun a _ c _ e => by
        injection e with e
        have := congrArg Prod.fst e
        rwa [ag_1, ag_1] at this)
      refine ⟨_, hp.1, ?_, fun ys hy => ?_⟩
      · rw [hp.2, own_inr]
        show b p.1 * bpr b (ars r) * _ ≤ _
        rw [Nat.mul_assoc]
        exact Nat.mul_le_mul l3 m2
      · obtain ⟨u, hu, hy⟩ := List.mem_flatMap.mp hy
        obtain ⟨zs', hz, rfl⟩ := List.mem_map.mp hy
        obtain ⟨a1, a2, a3⟩ := ag_sib t1 t2 t3 t4 (l2 u hu)
        refine ⟨vr_r a1 a2 a3 (m3 _ hz).1, fun z => ?_⟩
        rw [own_inr] at z
        exact (m3 _ hz).2 z
/-- the first own int := n -/
def setf (n : Nat) : List sp_X → List sp_X
  | [] => []
  | .inl _ :: r => .inl n :: r
  | .inr q :: r => .inr q :: setf n r
theorem setf_back {lo : Nat} (n : Nat) : ∀ {ys : List sp_X}, sp_fst ys = some lo → setf lo (setf n ys) = ys ∧ setf lo ys = ys ∧ (sp_ints (setf n ys)).sum + lo = (sp_ints ys).sum + n := by
  intro ys
  induction ys with
  | nil => intro h; cases h
  | cons y r ih =>
    intro h
    cases y with
    | inl m =>
      have h : some m = some lo := h
      injection h with h
      subst h
      refine ⟨rfl, rfl, ?_⟩
      show (n :: sp_ints r).sum + m = (m :: sp_ints r).sum + n
      rw [List.sum_cons, List.sum_cons]; omega
    | inr q =>
      obtain ⟨a, b, c⟩ := ih h
      refine ⟨?_, ?_, ?_⟩
      · show .inr q :: setf lo (setf n r) = _; rw [a]
      · show .inr q :: setf lo r = _; rw [b]
      · show (q.2.2.2 ++ sp_ints (setf n r)).sum + lo = (q.2.2.2 ++ sp_ints r).sum + n
        rw [List.sum_append, List.sum_append]; omega
theorem setf_vr {g : sp_G} {n : Nat} (h1 : g.1 ≤ n) (h2 : n ≤ g.2.1) : ∀ {par : Nat → Nat} {xs ys : List sp_X}, vr g par xs ys → vr g par xs (setf n ys) := by
  have key : ∀ (ys : List sp_X) (par : Nat → Nat), tyg g par ys → tyg g par (setf n ys) ∧ (setf n ys).length = ys.length ∧ sp_size (setf n ys) = sp_size ys ∧ sp_hts (setf n ys) = sp_hts ys ∧ own (setf n ys) = own ys := by
    intro ys
    induction ys with
    | nil => intro par h; exact ⟨h, rfl, rfl, rfl, rfl⟩
    | cons y r ih =>
      intro par h
      cases y with
      | inl m => exact ⟨tyg_cl ⟨(tyg_l h).1, h1, h2⟩ (tyg_tl h), rfl, rfl, rfl, by show own (.inl n :: r) = _; rw [own_inl, own_inl]⟩
      | inr q =>
        obtain ⟨a, b, c, d, e⟩ := ih _ (tyg_tl h)
        refine ⟨tyg_cr (tyg_r h) a, ?_, ?_, ?_, ?_⟩
        · show (setf n r).length + 1 = r.length + 1; rw [b]
        · show q.2.1 + sp_size (setf n r) = q.2.1 + sp_size r; rw [c]
        · show q.2.2.1 :: sp_hts (setf n r) = q.2.2.1 :: sp_hts r; rw [d]
        · show own (.inr q :: setf n r) = _; rw [own_inr, own_inr, e]
  intro par xs ys ⟨a, b, c, d, e⟩
  obtain ⟨a', b', c', d', e'⟩ := key ys par a
  exact ⟨a', b'.trans b, c'.trans c, d'.trans d, e'.trans e⟩
theorem min_ge {lo : Nat} : ∀ {l : List Nat}, l ≠ [] → (∀ a ∈ l, lo ≤ a) → lo ≤ sp_min l := by
  intro l
  induction l with
  | nil => intro h; exact absurd rfl h
  | cons a r ih =>
    intro _ h
    cases r with
    | nil => exact h a List.mem_cons_self
    | cons c r =>
      show lo ≤ min a (sp_min (c :: r))
      have h1 := h a List.mem_cons_self
      have h2 := ih (List.cons_ne_nil _ _) (fun x hx => h x (List.mem_cons_of_mem _ hx))
      omega
theorem fst_ne {xs : List sp_X} {n : Nat} (h : sp_fst xs = some n) : sp_ints xs ≠ [] := by
  induction xs with
  | nil => cases h
  | cons x r ih =>
    cases x with
    | inl m => exact List.cons_ne_nil _ _
    | inr q =>
      intro z
      have z : q.2.2.2 ++ sp_ints r = [] := z
      exact ih h (List.append_eq_nil_iff.mp z).2
theorem fst_own {xs : List sp_X} (h : own xs = 0) : sp_fst xs = none := by
  induction xs with
  | nil => rfl
  | cons x r ih =>
    cases x with
    | inl m => rw [own_inl] at h; omega
    | inr q => rw [own_inr] at h; exact ih h
