/-! ===== the room: what is still to be paid from a value downward ===== -/
/-- the condition of the entry v -/
def cdn (g : sp_G) (v : Nat) : Nat := match (sp_tab g).1[v]? with
  | none => 0
  | some e => match g.2.2.2[e.2.1]? with
    | none => 0
    | some q => q.2.2.2.2
/-- own ints -/
def own (xs : List sp_X) : Nat := xs.countP (fun x => match x with
  | .inl _ => true
  | .inr _ => false)
/-- the ints above the least -/
def up (g : sp_G) (v : Nat) : Nat := ((sp_ints (sp_xo (sp_tab g).1 v)).map (fun x => x - g.1)).sum
/-- what the parts of an ordered value may cost later -/
def oex (w k n : Nat) : Nat := if k = 1 then 0 else if k = 2 then kap 1 (min n 3) * (w * min n 3) else kap (k - 1) n * (w * n)
def md (i s : Nat) : Nat := if i = 1 then 1 else if s ≤ 5 then 1 else if s = 6 then 2 else i
/-- the potential: fuel, mode, value -/
def pot (g : sp_G) (W : Nat → Nat) : Nat → Nat → Nat → Nat
  | 0, _, _ => 0
  | f + 1, i, v => if cdn g v = 1 then min (W i * up g v) (W i * (up g v - nn (sp_tab g).1 v * (nn (sp_tab g).1 v - 1) / 2) + oex (g.2.1 - g.1) (zs (sp_tab g).1 v) (nn (sp_tab g).1 v))
    else if cdn g v = 5 ∧ own (sp_xo (sp_tab g).1 v) = 0 then ((sp_xo (sp_tab g).1 v).map (fun x => match x with
      | .inl _ => 0
      | .inr q => pot g W f (md i q.2.1) q.1)).sum
    else ((sp_xo (sp_tab g).1 v).map (fun x => match x with
      | .inl x => W i * (x - g.1)
      | .inr q => pot g W f i q.1)).sum
theorem map_sum_le {α : Type} {l : List α} {F F' : α → Nat} (h : ∀ x ∈ l, F x ≤ F' x) : (l.map F).sum ≤ (l.map F').sum := by
  induction l with
  | nil => exact Nat.le_refl _
  | cons a l ih =>
    rw [List.map_cons, List.map_cons, List.sum_cons, List.sum_cons]
    exact Nat.add_le_add (h a List.mem_cons_self) (ih (fun x hx => h x (List.mem_cons_of_mem _ hx)))
/-- more weight, more to pay -/
theorem pot_mono {g : sp_G} {W W' : Nat → Nat} {Rel : Nat → Nat → Prop} (h1 : ∀ i i', Rel i i' → W i ≤ W' i') (h2 : ∀ i i' s, Rel i i' → Rel (md i s) (md i' s)) : ∀ (f i i' v : Nat), Rel i i' → pot g W f i v ≤ pot g W' f i' v := by
  intro f
  induction f with
  | zero => intro i i' v _; exact Nat.le_refl _
  | succ f ih =>
    intro i i' v hr
    have hw := h1 i i' hr
    unfold pot
    by_cases c1 : cdn g v = 1
    · rw [if_pos c1, if_pos c1]
      have a := Nat.mul_le_mul_right (up g v) hw
      have b := Nat.mul_le_mul_right (up g v - nn (sp_tab g).1 v * (nn (sp_tab g).1 v - 1) / 2) hw
      omega
    · rw [if_neg c1, if_neg c1]
      by_cases c2 : cdn g v = 5 ∧ own (sp_xo (sp_tab g).1 v) = 0
      · rw [if_pos c2, if_pos c2]
        refine map_sum_le (fun x _ => ?_)
        cases x with
        | inl n => exact Nat.le_refl _
        | inr q => exact ih _ _ _ (h2 _ _ _ hr)
      · rw [if_neg c2, if_neg c2]
        refine map_sum_le (fun x _ => ?_)
        cases x with
        | inl n => exact Nat.mul_le_mul_right _ hw
        | inr q => exact ih _ _ _ hr
theorem up_sum (lo : Nat) : ∀ (xs : List sp_X), ((sp_ints xs).map (fun x => x - lo)).sum = (xs.map (fun x => match x with
    | .inl x => x - lo
    | .inr q => (q.2.2.2.map (fun x => x - lo)).sum)).sum := by
  intro xs
  induction xs with
  | nil => rfl
  | cons x r ih =>
    cases x with
    | inl n =>
      show ((n :: sp_ints r).map _).sum = _
      rw [List.map_cons, List.sum_cons, ih, List.map_cons, List.sum_cons]
    | inr q =>
      show ((q.2.2.2 ++ sp_ints r).map _).sum = _
      rw [List.map_append, List.sum_append, ih, List.map_cons, List.sum_cons]
theorem mul_sum {α : Type} (c : Nat) (l : List α) (F : α → Nat) : c * (l.map F).sum = (l.map (fun x => c * F x)).sum := by
  induction l with
  | nil => rfl
  | cons a l ih => rw [List.map_cons, List.map_cons, List.sum_cons, List.sum_cons, Nat.mul_add, ih]
/-- at most the greatest weight for each unit -/
theorem pot_le {g : sp_G} (hg : sp_wg g) {W : Nat → Nat} {c : Nat} (hW : ∀ i, W i ≤ c) : ∀ (f i v : Nat), pot g W f i v ≤ c * up g v := by
  intro f
  induction f with
  | zero => intro i v; exact Nat.zero_le _
  | succ f ih =>
    intro i v
    unfold pot
    by_cases c1 : cdn g v = 1
    · rw [if_pos c1]
      exact Nat.le_trans (Nat.min_le_left _ _) (Nat.mul_le_mul_right _ (hW i))
    · rw [if_neg c1]
      have e : c * up g v = ((sp_xo (sp_tab g).1 v).map (fun x => c * (match x with
          | .inl x => x - g.1
          | .inr q => (q.2.2.2.map (fun x => x - g.1)).sum))).sum := by
        unfold up
        rw [up_sum, mul_sum]
      rw [e]
      by_cases c2 : cdn g v = 5 ∧ own (sp_xo (sp_tab g).1 v) = 0
      · rw [if_pos c2]
        refine map_sum_le (fun x hx => ?_)
        cases x with
        | inl n => exact Nat.zero_le _
        | inr q =>
          have b5 := (sub_at (tb_ok hg).1 hx).2.2.2.2
          have := ih (md i q.2.1) q.1
          unfold up at this
          rw [← b5] at this
          exact this
      · rw [if_neg c2]
        refine map_sum_le (fun x hx => ?_)
        cases x with
        | inl n => exact Nat.mul_le_mul_right _ (hW i)
        | inr q =>
          have b5 := (sub_at (tb_ok hg).1 hx).2.2.2.2
          have := ih i q.1
          unfold up at this
          rw [← b5] at this
          exact this
