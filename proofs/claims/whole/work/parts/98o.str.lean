/-! ===== the room: sizes and ints of a value, its parts, a step down ===== -/
def zs (T : List sp_E) (v : Nat) : Nat := 1 + sp_size (sp_xo T v)
def sm (T : List sp_E) (v : Nat) : Nat := (sp_ints (sp_xo T v)).sum
def nn (T : List sp_E) (v : Nat) : Nat := (sp_ints (sp_xo T v)).length
theorem xo_eq {T : List sp_E} {v : Nat} {e : sp_E} (he : T[v]? = some e) : sp_xo T v = e.2.2 := by unfold sp_xo; rw [he]
theorem xo_in {T : List sp_E} {v : Nat} {x : sp_X} (h : x ∈ sp_xo T v) : ∃ e, T[v]? = some e ∧ x ∈ e.2.2 := by
  unfold sp_xo at h
  cases he : T[v]? with
  | none => rw [he] at h; cases h
  | some e => rw [he] at h; exact ⟨e, rfl, h⟩
theorem in_sz {xs : List sp_X} {q : Nat × Nat × Nat × List Nat} (h : .inr q ∈ xs) : q.2.1 ≤ sp_size xs ∧ q.2.2.2.sum ≤ (sp_ints xs).sum := by
  induction xs with
  | nil => cases h
  | cons x r ih =>
    rcases List.mem_cons.mp h with z | z
    · subst z
      show q.2.1 ≤ q.2.1 + sp_size r ∧ q.2.2.2.sum ≤ (q.2.2.2 ++ sp_ints r).sum
      rw [List.sum_append]
      omega
    · have := ih z
      cases x with
      | inl n =>
        show q.2.1 ≤ sp_size r ∧ q.2.2.2.sum ≤ (n :: sp_ints r).sum
        rw [List.sum_cons]; omega
      | inr p =>
        show q.2.1 ≤ p.2.1 + sp_size r ∧ q.2.2.2.sum ≤ (p.2.2.2 ++ sp_ints r).sum
        rw [List.sum_append]; omega
theorem in_n {xs : List sp_X} (h : ∀ q, .inr q ∈ xs → q.2.2.2.length ≤ 2 * q.2.1 + 1) : (sp_ints xs).length ≤ 2 * sp_size xs + xs.length := by
  induction xs with
  | nil => exact Nat.zero_le _
  | cons x r ih =>
    have h2 := ih (fun q hq => h q (List.mem_cons_of_mem _ hq))
    cases x with
    | inl n =>
      show (n :: sp_ints r).length ≤ 2 * sp_size r + (r.length + 1)
      rw [List.length_cons]; omega
    | inr p =>
      have h3 := h p List.mem_cons_self
      show (p.2.2.2 ++ sp_ints r).length ≤ 2 * (p.2.1 + sp_size r) + (r.length + 1)
      rw [List.length_append]; omega
theorem rn_n {T : List sp_E} (hT : sp_wT T) : ∀ (n v : Nat) (e : sp_E), v < n → T[v]? = some e → (sp_ints e.2.2).length ≤ 2 * sp_sz e + 1 := by
  intro n
  induction n with
  | zero => intro v e h; exact absurd h (Nat.not_lt_zero _)
  | succ n ih =>
    intro v e hv he
    obtain ⟨-, h2, -, -, -, -, -, h8⟩ := hT.2 v e he
    have := in_n (xs := e.2.2) (fun q hq => by
      obtain ⟨w, e', a, b, rfl⟩ := h8 q hq
      exact ih w e' (by omega) b)
    show _ ≤ 2 * (1 + sp_size e.2.2) + 1
    omega
theorem rn_nn {T : List sp_E} (hT : sp_wT T) {v : Nat} (hv : v < T.length) : nn T v ≤ 2 * zs T v + 1 ∧ zs T v ≤ 8 ∧ (sp_ints (sp_xo T v)).all (fun a => decide (a ≤ 5)) = true := by
  have he : T[v]? = some T[v] := List.getElem?_eq_getElem hv
  obtain ⟨-, -, h3, -, -, h6, -, -⟩ := hT.2 v _ he
  unfold nn zs
  rw [xo_eq he]
  exact ⟨rn_n hT _ v _ (Nat.lt_succ_self _) he, h3, List.all_eq_true.mpr (fun a ha => decide_eq_true (h6 a ha))⟩
theorem sum_5 {l : List Nat} {b : Nat} (h : ∀ a ∈ l, a ≤ b) : l.sum ≤ b * l.length := by
  induction l with
  | nil => exact Nat.zero_le _
  | cons a l ih =>
    have h1 := h a List.mem_cons_self
    have h2 := ih (fun x hx => h x (List.mem_cons_of_mem _ hx))
    rw [List.sum_cons, List.length_cons, Nat.mul_succ]; omega
theorem sub_at {T : List sp_E} (hT : sp_wT T) {v : Nat} {q : Nat × Nat × Nat × List Nat} (h : .inr q ∈ sp_xo T v) : q.1 < v ∧ v < T.length ∧ q.1 < T.length ∧ q.2.1 = zs T q.1 ∧ q.2.2.2 = sp_ints (sp_xo T q.1) := by
  obtain ⟨e, he, hm⟩ := xo_in h
  obtain ⟨w, e', a, b, rfl⟩ := (hT.2 v e he).2.2.2.2.2.2.2 q hm
  have hv := (List.getElem?_eq_some_iff.mp he).1
  have hw := (List.getElem?_eq_some_iff.mp b).1
  refine ⟨a, hv, hw, ?_, ?_⟩
  · show 1 + sp_size e'.2.2 = zs T w
    unfold zs; rw [xo_eq b]
  · show sp_ints e'.2.2 = sp_ints (sp_xo T w)
    rw [xo_eq b]
/-- a value's parts, by any relation that arguments have and that goes on -/
theorem prs_R {T : List sp_E} {t : Nat} {R : Nat → Nat → Prop} (hR : ∀ v q, .inr q ∈ sp_xo T v → R q.1 v) (htr : ∀ a b c, R a b → R b c → R a c) : ∀ (n v : Nat) (acc : List Nat) (x : Nat), x ∈ sp_prs T t n v acc → x ∈ acc ∨ (sp_tp T x = t ∧ R x v) := by
  intro n
  induction n with
  | zero => intro v acc x h; exact Or.inl h
  | succ n ih =>
    intro v acc x
    have key : ∀ (l : List sp_X) (acc : List Nat), (∀ q, .inr q ∈ l → R q.1 v) → x ∈ l.foldl (fun acc x => match x with
        | .inl _ => acc
        | .inr q => sp_prs T t n q.1 (if sp_tp T q.1 = t ∧ q.1 ∉ acc then acc ++ [q.1] else acc)) acc → x ∈ acc ∨ (sp_tp T x = t ∧ R x v) := by
      intro l
      induction l with
      | nil => intro acc _ h; exact Or.inl h
      | cons y l ihl =>
        intro acc hl h
        rw [List.foldl_cons] at h
        rcases ihl _ (fun q hq => hl q (List.mem_cons_of_mem _ hq)) h with z | z
        · cases y with
          | inl m => exact Or.inl z
          | inr q =>
            have hq := hl q List.mem_cons_self
            rcases ih q.1 _ x z with z2 | ⟨z2, z3⟩
            · by_cases hc : sp_tp T q.1 = t ∧ q.1 ∉ acc
              · rw [if_pos hc] at z2
                rcases List.mem_append.mp z2 with z4 | z4
                · exact Or.inl z4
                · have : x = q.1 := by simpa using z4
                  rw [this]
                  exact Or.inr ⟨hc.1, hq⟩
              · rw [if_neg hc] at z2; exact Or.inl z2
            · exact Or.inr ⟨z2, htr _ _ _ z3 hq⟩
        · exact Or.inr z
    intro h
    exact key (sp_xo T v) acc (fun q hq => hR v q hq) h
/-- one int lowered -/
def lowd (T : List sp_E) (v w : Nat) : Prop := ∃ (pre : List Nat) (x m : Nat) (r : List Nat), sp_cd T v = pre ++ x :: r ∧ sp_cd T w = pre ++ m :: r ∧ m < x ∧ x < 100
theorem dec_low {g : sp_G} (hw : sp_wg g) {v w : Nat} (hv : v < (sp_tab g).1.length) (h : w ∈ sp_dec (sp_tab g).1 v) : w < (sp_tab g).1.length ∧ sp_tp (sp_tab g).1 w = sp_tp (sp_tab g).1 v ∧ w < v ∧ lowd (sp_tab g).1 v w := by
  obtain ⟨hT, hs, -, -⟩ := tb_ok hw
  unfold sp_dec at h
  obtain ⟨h1, h2⟩ := List.mem_filter.mp h
  obtain ⟨a1, a2, a3, a4⟩ := of_td.mp h1
  have h3 := of_decide_eq_true h2
  have hlt : w < v := (sp_rk_lt a1 hv a2).mpr a4
  have hl : (sp_cd (sp_tab g).1 v).length = (sp_cd (sp_tab g).1 w).length := by
    have := congrArg List.length h3.1
    simpa [sp_sh] using this
  obtain ⟨pre, x, m, r, e1, e2, hne⟩ := ham_one _ _ hl h3.2
  have ho := (sp_ord2 hw hT (sp_tab_ty hw) (tb_od hw) a1 hv a2 h3.1.symm).1.mp hlt
  refine ⟨a1, a2, hlt, pre, x, m, r, e1, e2, ?_, ?_⟩
  · rcases Nat.lt_or_gt_of_ne hne with z | z
    · exfalso
      rw [e1, e2] at ho
      exact cd_lt_asym ho ⟨pre, x, m, r, r, rfl, rfl, z⟩
    · exact z
  · have hx : sp_sh (pre ++ x :: r) = sp_sh (pre ++ m :: r) := by rw [← e1, ← e2]; exact h3.1
    unfold sp_sh at hx
    rw [List.map_append, List.map_append] at hx
    have h5 := List.append_cancel_left hx
    rw [List.map_cons, List.map_cons] at h5
    have h6 := (List.cons.inj h5).1
    by_cases hx1 : 100 ≤ x
    · rw [if_pos hx1] at h6
      by_cases hm1 : 100 ≤ m
      · rw [if_pos hm1] at h6; exact absurd h6 hne
      · rw [if_neg hm1] at h6; omega
    · omega
/-- a step down: a part, or one int lowered -/
theorem red_cs {g : sp_G} (hw : sp_wg g) {v w : Nat} (hv : v < (sp_tab g).1.length) (h : w ∈ sp_red (sp_tab g).1 v) : w < (sp_tab g).1.length ∧ sp_tp (sp_tab g).1 w = sp_tp (sp_tab g).1 v ∧ ((w < v ∧ zs (sp_tab g).1 w < zs (sp_tab g).1 v ∧ sm (sp_tab g).1 w ≤ sm (sp_tab g).1 v ∧ w ∈ sp_prs (sp_tab g).1 (sp_tp (sp_tab g).1 v) 8 v []) ∨ lowd (sp_tab g).1 v w) := by
  obtain ⟨hT, hs, -, -⟩ := tb_ok hw
  unfold sp_red at h
  rcases List.mem_append.mp h with z | z
  · rcases prs_R (R := fun a b => a < (sp_tab g).1.length ∧ a < b ∧ zs (sp_tab g).1 a < zs (sp_tab g).1 b ∧ sm (sp_tab g).1 a ≤ sm (sp_tab g).1 b) (fun v q hq => by
        obtain ⟨b1, b2, b3, b4, b5⟩ := sub_at hT hq
        have b6 := in_sz hq
        refine ⟨b3, b1, ?_, ?_⟩
        · rw [← b4]; unfold zs; omega
        · have : sm (sp_tab g).1 q.1 = q.2.2.2.sum := by unfold sm; rw [b5]
          rw [this]; exact b6.2) (fun a b c h1 h2 => ⟨h1.1, by omega, by omega, by omega⟩) _ _ _ _ z with y | ⟨y1, y2, y3, y4, y5⟩
    · cases y
    · exact ⟨y2, y1, Or.inl ⟨y3, y4, y5, z⟩⟩
  · obtain ⟨a1, a2, a3, a4⟩ := dec_low hw hv z
    exact ⟨a1, a2, Or.inr a4⟩
theorem low_it {T : List sp_E} {v w : Nat} (h : lowd T v w) : ∃ (p : List Nat) (x m : Nat) (r : List Nat), it_f (sp_cd T v) = p ++ x :: r ∧ it_f (sp_cd T w) = p ++ m :: r ∧ m < x := by
  obtain ⟨pre, x, m, r, e1, e2, e3, e4⟩ := h
  refine ⟨it_f pre, x, m, it_f r, ?_, ?_, e3⟩
  · rw [e1]; unfold it_f; rw [List.filter_append, List.filter_cons, if_pos (decide_eq_true e4)]
  · rw [e2]; unfold it_f; rw [List.filter_append, List.filter_cons, if_pos (decide_eq_true (by omega))]
theorem ci_low {T : List sp_E} {v w : Nat} (h : lowd T v w) : ci_n (sp_cd T v) = ci_n (sp_cd T w) := by
  obtain ⟨pre, x, m, r, e1, e2, e3, e4⟩ := h
  rw [e1, e2]
  unfold ci_n
  simp [List.countP_append, List.countP_cons, show ¬ 100 ≤ x by omega, show ¬ 100 ≤ m by omega]
