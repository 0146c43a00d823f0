/-! ===== the room: one int lowered pays ===== -/
theorem it_lo {g : sp_G} (hg : sp_wg g) {v : Nat} (hv : v < (sp_tab g).1.length) : ∀ a ∈ sp_ints (sp_xo (sp_tab g).1 v), g.1 ≤ a ∧ a ≤ g.2.1 := by
  intro a ha
  rw [← (tb_it hg hv).1] at ha
  obtain ⟨h1, h2⟩ := List.mem_filter.mp ha
  have h3 := of_decide_eq_true h2
  rcases cd_rng (tb_ok hg).1 (sp_tab_ty hg) _ v _ (List.getElem?_eq_getElem hv) (Nat.lt_succ_self _) a h1 with z | z
  · omega
  · exact z
theorem sum_lo {lo : Nat} {l : List Nat} (h : ∀ a ∈ l, lo ≤ a) : (l.map (fun x => x - lo)).sum + lo * l.length = l.sum := by
  induction l with
  | nil => rfl
  | cons a l ih =>
    have h1 := h a List.mem_cons_self
    have h2 := ih (fun x hx => h x (List.mem_cons_of_mem _ hx))
    rw [List.map_cons, List.sum_cons, List.length_cons, List.sum_cons, Nat.mul_succ]
    omega
theorem up_sm {g : sp_G} (hg : sp_wg g) {v : Nat} (hv : v < (sp_tab g).1.length) : up g v + g.1 * nn (sp_tab g).1 v = sm (sp_tab g).1 v := sum_lo (fun a ha => (it_lo hg hv a ha).1)
theorem up_le {g : sp_G} (hg : sp_wg g) {v : Nat} (hv : v < (sp_tab g).1.length) : up g v ≤ (g.2.1 - g.1) * nn (sp_tab g).1 v := by
  have : ∀ l : List Nat, (∀ a ∈ l, g.1 ≤ a ∧ a ≤ g.2.1) → (l.map (fun x => x - g.1)).sum ≤ (g.2.1 - g.1) * l.length := by
    intro l h
    have := sum_5 (l := l.map (fun x => x - g.1)) (b := g.2.1 - g.1) (fun a ha => by
      obtain ⟨x, hx, rfl⟩ := List.mem_map.mp ha
      have := h x hx
      omega)
    rwa [List.length_map] at this
  exact this _ (it_lo hg hv)
/-- ascending ints stand at least at 0, 1, 2 .. above the least -/
theorem asc_up (lo : Nat) : ∀ (l : List Nat) (b : Nat), sp_asc l = true → (∀ a ∈ l, lo + b ≤ a) → l.length * (l.length - 1) / 2 + b * l.length ≤ (l.map (fun x => x - lo)).sum := by
  intro l
  induction l with
  | nil => intro b _ _; exact Nat.zero_le _
  | cons a l ih =>
    intro b hs hb
    have h1 := hb a List.mem_cons_self
    have hs2 : sp_asc l = true ∧ ∀ x ∈ l, lo + (b + 1) ≤ x := by
      clear ih
      induction l generalizing a with
      | nil => exact ⟨rfl, fun x hx => by cases hx⟩
      | cons c l ih2 =>
        have hs : (decide (a < c) && sp_asc (c :: l)) = true := hs
        rw [Bool.and_eq_true] at hs
        have hac := of_decide_eq_true hs.1
        refine ⟨hs.2, fun x hx => ?_⟩
        rcases List.mem_cons.mp hx with z | z
        · omega
        · exact (ih2 c hs.2 (fun y hy => by
            rcases List.mem_cons.mp hy with z | z
            · omega
            · exact hb y (List.mem_cons_of_mem _ (List.mem_cons_of_mem _ z))) (by omega)).2 x z
    have h2 := ih (b + 1) hs2.1 hs2.2
    rw [List.map_cons, List.sum_cons, List.length_cons]
    have e : (l.length + 1) * (l.length + 1 - 1) / 2 = l.length * (l.length - 1) / 2 + l.length := by
      cases hl : l.length with
      | zero => rfl
      | succ n =>
        rw [Nat.add_sub_cancel, Nat.add_sub_cancel]
        have : (n + 1 + 1) * (n + 1) = (n + 1) * n + (n + 1) * 2 := by rw [← Nat.mul_add, Nat.mul_comm]
        rw [this, Nat.add_mul_div_right _ _ (by decide)]
    rw [e, Nat.mul_succ]
    rw [Nat.add_mul] at h2
    omega
theorem cdn_eq {g : sp_G} {v : Nat} {e : sp_E} {q : sp_C} (he : (sp_tab g).1[v]? = some e) (hq : g.2.2.2[e.2.1]? = some q) : cdn g v = q.2.2.2.2 := by
  unfold cdn
  rw [he]
  dsimp only
  rw [hq]
theorem cdn_h {g : sp_G} (hg : sp_wg g) {v : Nat} (hv : v < (sp_tab g).1.length) : sp_cond (cdn g v) (sp_xo (sp_tab g).1 v) = true := by
  have he : (sp_tab g).1[v]? = some (sp_tab g).1[v] := List.getElem?_eq_getElem hv
  obtain ⟨q, q1, -, -, -, q5⟩ := sp_tab_ty hg _ (List.getElem_mem hv)
  rw [cdn_eq he q1, xo_eq he]
  exact q5
