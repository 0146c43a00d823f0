/-! ===== the room: a making's slots, finer ===== -/
theorem rx_cS {g : sp_G} (hw : sp_wg g) (T : List sp_E) {p : Nat} (hp : p < 9 ∨ p = 9 ∨ p = 10) : rf_cS g T p ≤ sp_isT p * T.length + 12 * (1 - sp_isT p) := by
  obtain ⟨w1, w2, -⟩ := hw
  unfold rf_cS
  rcases hp with h | rfl | rfl
  · rw [if_neg (by omega), if_neg (by omega), rm_isT1 h]
    have := rm_ofl T p
    omega
  · rw [if_neg (by decide), if_pos rfl, rm_isT0 (by decide)]
    omega
  · rw [if_pos rfl, rm_isT0 (by decide)]
    omega
theorem rx_cSq {g : sp_G} (hw : sp_wg g) (T : List sp_E) {q : sp_C} (hq : q ∈ g.2.2.2) : rf_cSq g T q + 12 * rm_t q ≤ rm_t q * T.length + 36 := by
  have hc := hw.2.2.2.2 q hq
  have h4 := hw.2.2.1
  have hk : ∀ k, k < 3 → sp_par q k < 9 ∨ sp_par q k = 9 ∨ sp_par q k = 10 := fun k hk => by
    rcases hc.2.1 k hk with z | z | z
    · exact Or.inl (by omega)
    · exact Or.inr (Or.inl z)
    · exact Or.inr (Or.inr z)
  have a := rx_cS hw T (p := q.2.1) (hk 0 (by decide))
  have b := rx_cS hw T (p := q.2.2.1) (hk 1 (by decide))
  have c := rx_cS hw T (p := q.2.2.2.1) (hk 2 (by decide))
  have i1 := rm_isT q.2.1
  have i2 := rm_isT q.2.2.1
  have i3 := rm_isT q.2.2.2.1
  unfold rf_cSq rm_t
  rw [Nat.add_mul, Nat.add_mul]
  omega
theorem rx_cSl {g : sp_G} (hw : sp_wg g) (T : List sp_E) : ∀ l : List sp_C, (∀ q ∈ l, q ∈ g.2.2.2) → (l.map (rf_cSq g T)).sum + 12 * (l.map rm_t).sum ≤ (l.map rm_t).sum * T.length + 36 * l.length := by
  intro l
  induction l with
  | nil => intro _; exact Nat.zero_le _
  | cons q l ih =>
    intro h
    have h1 := rx_cSq hw T (h q List.mem_cons_self)
    have h2 := ih (fun x hx => h x (List.mem_cons_of_mem _ hx))
    rw [List.map_cons, List.map_cons, List.sum_cons, List.sum_cons, List.length_cons, Nat.add_mul]
    omega
theorem rx_lvS {g : sp_G} (hw : sp_wg g) {T : List sp_E} (hT : sp_wT T) (hs : sp_srt T) {s : Nat} (hle : sp_le T s) (hs7 : s ≤ 7) : rf_slots (rf_lv g T s).1 - rf_slots T ≤ (3 * (s + 1) + 1) * ((rf_lv g T s).1.length - T.length) := by
  obtain ⟨o1, o2, o3, o4, o5⟩ := rf_pc_ok hw hT hs hle hs7 g.2.2.2.length
  have p1 : sp_wT (rf_lv g T s).1 := o1
  have p2 : T <+: (rf_lv g T s).1 := o2
  have p3 : ∀ v e, (rf_lv g T s).1[v]? = some e → T.length ≤ v → sp_sz e = s + 1 := o3
  obtain ⟨N, hN⟩ := p2
  rw [← hN] at p1 p3 ⊢
  have hg := rm_grow N (3 * (s + 1) + 1) (fun e he => by
    obtain ⟨i, hi⟩ := List.getElem?_of_mem he
    have hx : (T ++ N)[T.length + i]? = some e := by
      rw [List.getElem?_append_right (by omega), Nat.add_sub_cancel_left]; exact hi
    have z := p3 (T.length + i) e hx (by omega)
    have y := rn_n p1 _ _ e (Nat.lt_succ_self _) hx
    omega)
  rw [rm_slapp, List.length_append, Nat.add_sub_cancel_left, Nat.add_sub_cancel_left]
  exact hg
