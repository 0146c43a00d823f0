/-! ===== the room of a making: slots ===== -/
def rm_t (q : sp_C) : Nat := sp_isT q.2.1 + sp_isT q.2.2.1 + sp_isT q.2.2.2.1
theorem rm_isT (p : Nat) : sp_isT p ≤ 1 := by unfold sp_isT; split <;> omega
theorem rm_isT1 {p : Nat} (h : p < 9) : sp_isT p = 1 := if_pos h
theorem rm_isT0 {p : Nat} (h : ¬ p < 9) : sp_isT p = 0 := if_neg h
theorem rm_t2 {ty : Nat} (h4 : ty ≤ 4) {q : sp_C} (hq : sp_wc ty q) : rm_t q ≤ 2 := by
  obtain ⟨w1, w2, w3, w4, w5, w6⟩ := hq
  have k0 : q.2.1 < ty ∨ q.2.1 = 9 ∨ q.2.1 = 10 := w2 0 (by decide)
  have k1 : q.2.2.1 < ty ∨ q.2.2.1 = 9 ∨ q.2.2.1 = 10 := w2 1 (by decide)
  have k2 : q.2.2.2.1 < ty ∨ q.2.2.2.1 = 9 ∨ q.2.2.2.1 = 10 := w2 2 (by decide)
  have i0 := rm_isT q.2.1
  have i1 := rm_isT q.2.2.1
  have i2 := rm_isT q.2.2.2.1
  unfold rm_t
  by_cases a : q.2.1 < ty
  · by_cases b : q.2.2.1 < ty
    · have c : ¬ q.2.2.2.1 < 9 := fun z => w5 ⟨a, b, by omega⟩
      rw [rm_isT0 c]; omega
    · rw [rm_isT0 (show ¬ q.2.2.1 < 9 by omega)]; omega
  · rw [rm_isT0 (show ¬ q.2.1 < 9 by omega)]; omega
theorem rm_ofl (T : List sp_E) (p : Nat) : (sp_of T p).length ≤ T.length := by
  unfold sp_of
  have := List.length_filter_le (fun v => match T[v]? with | some e => e.1 == p | none => false) (List.range T.length)
  rw [List.length_range] at this
  exact this
theorem rm_cS {g : sp_G} (hw : sp_wg g) (T : List sp_E) {p : Nat} (hp : p < 9 ∨ p = 9 ∨ p = 10) : rf_cS g T p ≤ sp_isT p * T.length + 12 := by
  have h5 := hw.2.1
  rcases hp with h | rfl | rfl
  · rw [rm_isT1 h]
    unfold rf_cS
    rw [if_neg (by omega), if_neg (by omega)]
    have := rm_ofl T p
    omega
  · show 2 * (g.2.1 + 1 - g.1) ≤ 0 * T.length + 12
    omega
  · show 1 ≤ 0 * T.length + 12
    omega
theorem rm_cSq {g : sp_G} (hw : sp_wg g) (T : List sp_E) {q : sp_C} (hq : q ∈ g.2.2.2) : rf_cSq g T q ≤ rm_t q * T.length + 36 := by
  have h4 := hw.2.2.1
  obtain ⟨w1, w2, w3, w4, w5, w6⟩ := hw.2.2.2.2 q hq
  have k0 : q.2.1 < g.2.2.1 ∨ q.2.1 = 9 ∨ q.2.1 = 10 := w2 0 (by decide)
  have k1 : q.2.2.1 < g.2.2.1 ∨ q.2.2.1 = 9 ∨ q.2.2.1 = 10 := w2 1 (by decide)
  have k2 : q.2.2.2.1 < g.2.2.1 ∨ q.2.2.2.1 = 9 ∨ q.2.2.2.1 = 10 := w2 2 (by decide)
  have a := rm_cS hw T (p := q.2.1) (by omega)
  have b := rm_cS hw T (p := q.2.2.1) (by omega)
  have c := rm_cS hw T (p := q.2.2.2.1) (by omega)
  unfold rf_cSq rm_t
  rw [Nat.add_mul, Nat.add_mul]
  omega
theorem rm_cSl {g : sp_G} (hw : sp_wg g) (T : List sp_E) : ∀ l : List sp_C, (∀ q ∈ l, q ∈ g.2.2.2) → (l.map (rf_cSq g T)).sum ≤ (l.map rm_t).sum * T.length + 36 * l.length := by
  intro l
  induction l with
  | nil => intro _; exact Nat.zero_le _
  | cons a r ih =>
    intro h
    have h1 := rm_cSq hw T (h a List.mem_cons_self)
    have h2 := ih (fun q hq => h q (List.mem_cons_of_mem _ hq))
    rw [List.map_cons, List.map_cons, List.sum_cons, List.sum_cons, List.length_cons, Nat.add_mul]
    omega
theorem rm_tl {ty : Nat} (h4 : ty ≤ 4) : ∀ l : List sp_C, (∀ q ∈ l, sp_wc ty q) → (l.map rm_t).sum ≤ 2 * l.length ∧ ((∃ q ∈ l, rm_t q = 0) → (l.map rm_t).sum + 2 ≤ 2 * l.length) := by
  intro l
  induction l with
  | nil => intro _; exact ⟨Nat.le_refl _, fun ⟨q, hq, _⟩ => absurd hq List.not_mem_nil⟩
  | cons a r ih =>
    intro h
    have h1 := rm_t2 h4 (h a List.mem_cons_self)
    obtain ⟨i1, i2⟩ := ih (fun q hq => h q (List.mem_cons_of_mem _ hq))
    rw [List.map_cons, List.sum_cons, List.length_cons]
    refine ⟨by omega, ?_⟩
    rintro ⟨q, hq, h0⟩
    rcases List.mem_cons.mp hq with rfl | hr
    · omega
    · have := i2 ⟨q, hr, h0⟩
      omega
theorem rm_10 {g : sp_G} (hw : sp_wg g) (h0 : ∃ q ∈ g.2.2.2, rm_t q = 0) (T : List sp_E) : (g.2.2.2.map (rf_cSq g T)).sum ≤ 10 * T.length + 216 := by
  have h1 := rm_cSl hw T g.2.2.2 (fun _ h => h)
  have h2 := (rm_tl hw.2.2.1 g.2.2.2 hw.2.2.2.2).2 h0
  have h6 := hw.2.2.2.1
  have h3 : (g.2.2.2.map rm_t).sum * T.length ≤ 10 * T.length := Nat.mul_le_mul_right _ (by omega)
  omega
theorem rm_grow : ∀ (N : List sp_E) (b : Nat), (∀ e ∈ N, sp_sz e + (sp_ints e.2.2).length ≤ b) → rf_slots N ≤ b * N.length := by
  intro N b
  induction N with
  | nil => intro _; exact Nat.zero_le _
  | cons a r ih =>
    intro h
    have h1 := h a List.mem_cons_self
    have h2 := ih (fun q hq => h q (List.mem_cons_of_mem _ hq))
    unfold rf_slots at h2 ⊢
    rw [List.map_cons, List.sum_cons, List.length_cons, Nat.mul_succ]
    omega
theorem rm_slapp (T N : List sp_E) : rf_slots (T ++ N) = rf_slots T + rf_slots N := by
  unfold rf_slots
  rw [List.map_append, List.sum_append]
theorem rm_lvS {g : sp_G} (hw : sp_wg g) {T : List sp_E} (hT : sp_wT T) (hs : sp_srt T) {s : Nat} (hle : sp_le T s) (hs7 : s ≤ 7) : rf_slots (rf_lv g T s).1 - rf_slots T ≤ 4 * (s + 1) * ((rf_lv g T s).1.length - T.length) := by
  obtain ⟨o1, o2, o3, o4, o5⟩ := rf_pc_ok hw hT hs hle hs7 g.2.2.2.length
  have p1 : sp_wT (rf_lv g T s).1 := o1
  have p2 : T <+: (rf_lv g T s).1 := o2
  have p3 : ∀ v e, (rf_lv g T s).1[v]? = some e → T.length ≤ v → sp_sz e = s + 1 := o3
  obtain ⟨N, hN⟩ := p2
  rw [← hN] at p1 p3 ⊢
  have hg := rm_grow N (4 * (s + 1)) (fun e he => by
    obtain ⟨i, hi⟩ := List.getElem?_of_mem he
    have hx : (T ++ N)[T.length + i]? = some e := by
      rw [List.getElem?_append_right (by omega), Nat.add_sub_cancel_left]; exact hi
    have z := p3 (T.length + i) e hx (by omega)
    have y := (p1.2 (T.length + i) e hx).2.2.2.2.1
    have z' : 1 + sp_size e.2.2 = s + 1 := z
    rw [z'] at y
    omega)
  rw [rm_slapp, List.length_append, Nat.add_sub_cancel_left, Nat.add_sub_cancel_left]
  exact hg
theorem rm_mkS {g : sp_G} (hw : sp_wg g) (h0 : ∃ q ∈ g.2.2.2, rm_t q = 0) : ∀ (j s : Nat) (T : List sp_E), s + j = 8 → sp_wT T → sp_srt T → sp_le T s → mk_S g j T s ≤ 220 * j + 10 * j * T.length + (300 - T.length) * (26 + 6 * j) := by
  intro j
  induction j with
  | zero => intro s T hs h1 h2 h3; exact Nat.zero_le _
  | succ j ih =>
    intro s T hs h1 h2 h3
    obtain ⟨o1, o2, o3, o4, o5⟩ := rf_pc_ok hw h1 h2 h3 (by omega) g.2.2.2.length
    have l1 : (rf_lv g T s).1.length ≤ 300 := o1.1
    have l2 : T.length ≤ (rf_lv g T s).1.length := o2.length_le
    have hc := rm_10 hw h0 T
    have hgr := rm_lvS hw h1 h2 h3 (by omega)
    have hi := ih (s + 1) (rf_lv g T s).1 (by omega) o1 o4 o5
    show 4 + (g.2.2.2.map (rf_cSq g T)).sum + (rf_slots (rf_lv g T s).1 - rf_slots T) + (if (rf_lv g T s).2 then 0 else mk_S g j (rf_lv g T s).1 (s + 1)) ≤ _
    have hle : (if (rf_lv g T s).2 then 0 else mk_S g j (rf_lv g T s).1 (s + 1)) ≤ mk_S g j (rf_lv g T s).1 (s + 1) := by
      cases (rf_lv g T s).2 with
      | true => exact Nat.zero_le _
      | false => exact Nat.le_refl _
    generalize (if (rf_lv g T s).2 then 0 else mk_S g j (rf_lv g T s).1 (s + 1)) = X at hle ⊢
    generalize mk_S g j (rf_lv g T s).1 (s + 1) = Y at hle hi
    generalize rf_slots (rf_lv g T s).1 - rf_slots T = Z at hgr ⊢
    generalize (g.2.2.2.map (rf_cSq g T)).sum = W at hc ⊢
    generalize (rf_lv g T s).1.length = m at l1 l2 hgr hi
    generalize T.length = n at l2 hc hgr ⊢
    clear ih o1 o2 o3 o4 o5 h1 h2 h3
    have hj : s = 7 - j := by omega
    subst hj
    rcases (show j = 0 ∨ j = 1 ∨ j = 2 ∨ j = 3 ∨ j = 4 ∨ j = 5 ∨ j = 6 ∨ j = 7 by omega) with rfl | rfl | rfl | rfl | rfl | rfl | rfl | rfl <;> simp only [Nat.reduceAdd, Nat.reduceMul, Nat.reduceSub] at hgr hi ⊢ <;> omega
