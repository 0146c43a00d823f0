/-! ===== the room: a making's slots, finer ===== -/
theorem rx_cS {g : sp_G} (hw : sp_wg g) (T : List sp_E) {p : Nat} (hp : p < 9 ∨ p = 9 ∨ p = 10) : rf_cS g T p ≤ sp_isT p * T.length + 12 * (1 - sp_isT p) := by
  obtain ⟨w1, w2, -⟩ := hw
  unfold rf_cS
  rcases hp with h | rfl | rfl
  · rw [if_neg (by omega), if_neg (by omega), rm_isT1 h]
    have := rm_ofl T p
    omega
  · rw [if_neg (by decide), if_pos rfl, rm_isT0 (by decide)]
    omega
  · rw [if_pos rfl, rm_isT0 (by decide)]
    omega
theorem rx_cSq {g : sp_G} (hw : sp_wg g) (T : List sp_E) {q : sp_C} (hq : q ∈ g.2.2.2) : rf_cSq g T q + 12 * rm_t q ≤ rm_t q * T.length + 36 := by
  have hc := hw.2.2.2.2 q hq
  have h4 := hw.2.2.1
  have hk : ∀ k, k < 3 → sp_par q k < 9 ∨ sp_par q k = 9 ∨ sp_par q k = 10 := fun k hk => by
    rcases hc.2.1 k hk with z | z | z
    · exact Or.inl (by omega)
    · exact Or.inr (Or.inl z)
    · exact Or.inr (Or.inr z)
  have a := rx_cS hw T (p := q.2.1) (hk 0 (by decide))
  have b := rx_cS hw T (p := q.2.2.1) (hk 1 (by decide))
  have c := rx_cS hw T (p := q.2.2.2.1) (hk 2 (by decide))
  have i1 := rm_isT q.2.1
  have i2 := rm_isT q.2.2.1
  have i3 := rm_isT q.2.2.2.1
  unfold rf_cSq rm_t
  rw [Nat.add_mul, Nat.add_mul]
  omega
theorem rx_cSl {g : sp_G} (hw : sp_wg g) (T : List sp_E) : ∀ l : List sp_C, (∀ q ∈ l, q ∈ g.2.2.2) → (l.map (rf_cSq g T)).sum + 12 * (l.map rm_t).sum ≤ (l.map rm_t).sum * T.length + 36 * l.length := by
  intro l
  induction l with
  | nil => intro _; exact Nat.zero_le _
  | cons q l ih =>
    intro h
    have h1 := rx_cSq hw T (h q List.mem_cons_self)
    have h2 := ih (fun x hx => h x (List.mem_cons_of_mem _ hx))
    rw [List.map_cons, List.map_cons, List.sum_cons, List.sum_cons, List.length_cons, Nat.add_mul]
    omega
