/-! ===== the table's codes and types ===== -/
def sp_c1 (C : List (List Nat)) (e : sp_E) : List Nat := (100 + e.2.1) :: (e.2.2.map (fun x => match x with
  | .inl n => [n]
  | .inr q => (C[q.1]?).getD [])).flatten
def sp_cods (T : List sp_E) : List (List Nat) := T.foldl (fun C e => C ++ [sp_c1 C e]) []
/-- the code of the entry v -/
def sp_cd (T : List sp_E) (v : Nat) : List Nat := ((sp_cods T)[v]?).getD []
def sp_pc (T : List sp_E) (x : sp_X) : List Nat := match x with
  | .inl n => [n]
  | .inr q => sp_cd T q.1
theorem sp_cods_snoc (T : List sp_E) (e : sp_E) : sp_cods (T ++ [e]) = sp_cods T ++ [sp_c1 (sp_cods T) e] := by
  unfold sp_cods
  rw [List.foldl_append]; rfl
theorem sp_cods_len (T : List sp_E) : (sp_cods T).length = T.length := by
  induction T using sp_rind with
  | h0 => rfl
  | h1 l a ih => rw [sp_cods_snoc, List.length_append, ih, List.length_append]; rfl
theorem sp_cods_pre (T r : List sp_E) {v : Nat} (hv : v < T.length) : (sp_cods (T ++ r))[v]? = (sp_cods T)[v]? := by
  induction r using sp_rind with
  | h0 => rw [List.append_nil]
  | h1 l a ih =>
    rw [← List.append_assoc, sp_cods_snoc, List.getElem?_append_left (by rw [sp_cods_len, List.length_append]; omega), ih]
theorem sp_cd_pre {T0 T : List sp_E} (h : T0 <+: T) {v : Nat} (hv : v < T0.length) : sp_cd T v = sp_cd T0 v := by
  obtain ⟨r, rfl⟩ := h
  unfold sp_cd
  rw [sp_cods_pre T0 r hv]
theorem sp_cd_eq {T : List sp_E} (hw : sp_wT T) {v : Nat} {e : sp_E} (he : T[v]? = some e) : sp_cd T v = (100 + e.2.1) :: (e.2.2.map (sp_pc T)).flatten := by
  have hv : v < T.length := (List.getElem?_eq_some_iff.mp he).1
  have h1 : T = (T.take v ++ [e]) ++ T.drop (v + 1) := by
    have h2 : T.drop v = e :: T.drop (v + 1) := by
      rw [List.drop_eq_getElem_cons hv]
      congr 1
      exact (List.getElem?_eq_some_iff.mp he).2
    rw [List.append_assoc, List.singleton_append, ← h2, List.take_append_drop]
  have hlt : (T.take v).length = v := by rw [List.length_take]; omega
  have h3 : (sp_cods T)[v]? = some (sp_c1 (sp_cods (T.take v)) e) := by
    have h4 := sp_cods_pre (T.take v ++ [e]) (T.drop (v + 1)) (v := v) (by rw [List.length_append, hlt]; simp)
    rw [← h1] at h4
    rw [h4, sp_cods_snoc, List.getElem?_append_right (by rw [sp_cods_len, hlt]; exact Nat.le_refl _), sp_cods_len, hlt, Nat.sub_self]
    rfl
  show ((sp_cods T)[v]?).getD [] = _
  rw [h3]
  show sp_c1 _ e = _
  unfold sp_c1
  congr 2
  apply List.map_congr_left
  intro x hx
  cases x with
  | inl n => rfl
  | inr q =>
    obtain ⟨w, e', w1, w2, rfl⟩ := (hw.2 v e he).2.2.2.2.2.2.2 q hx
    show ((sp_cods (T.take v))[w]?).getD [] = ((sp_cods T)[w]?).getD []
    have h5 := sp_cods_pre (T.take v) (T.drop v) (v := w) (by rw [hlt]; exact w1)
    rw [List.take_append_drop] at h5
    rw [h5]
theorem sp_cd_len {T : List sp_E} (hw : sp_wT T) : ∀ (v : Nat) (e : sp_E), T[v]? = some e → (sp_cd T v).length = sp_sz e + (sp_ints e.2.2).length := by
  intro v
  induction v using Nat.strongRecOn with
  | _ v ih =>
    intro e he
    rw [sp_cd_eq hw he, List.length_cons]
    have : ∀ xs : List sp_X, (∀ q, .inr q ∈ xs → ∃ w e', w < v ∧ T[w]? = some e' ∧ q = sp_att w e') → ((xs.map (sp_pc T)).flatten).length = sp_size xs + (sp_ints xs).length := by
      intro xs
      induction xs with
      | nil => intro _; rfl
      | cons x r ih2 =>
        intro h
        have h2 := ih2 (fun q hq => h q (List.mem_cons_of_mem _ hq))
        rw [List.map_cons, List.flatten_cons, List.length_append, h2]
        cases x with
        | inl n => simp [sp_pc, sp_size, sp_ints]; omega
        | inr q =>
          obtain ⟨w, e', w1, w2, rfl⟩ := h q List.mem_cons_self
          have h3 := ih w w1 e' w2
          show (sp_cd T w).length + _ = (1 + sp_size e'.2.2) + sp_size r + (sp_ints e'.2.2 ++ sp_ints r).length
          rw [h3, List.length_append]
          unfold sp_sz
          omega
    rw [this e.2.2 (hw.2 v e he).2.2.2.2.2.2.2]
    unfold sp_sz
    omega
/-- arguments that match a constructor's parameters -/
def sp_tyx (g : sp_G) (T : List sp_E) (q : sp_C) (xs : List sp_X) : Prop := ∀ (j : Nat) (x : sp_X), xs[j]? = some x → match x with
  | .inl n => sp_par q j = 9 ∧ g.1 ≤ n ∧ n ≤ g.2.1
  | .inr p => sp_par q j < 4 ∧ ∃ e', T[p.1]? = some e' ∧ e'.1 = sp_par q j ∧ p = sp_att p.1 e'
def sp_ent (g : sp_G) (T : List sp_E) (e : sp_E) : Prop := ∃ q, g.2.2.2[e.2.1]? = some q ∧ q.1 = e.1 ∧ e.2.2.length = sp_ar q ∧ sp_tyx g T q e.2.2 ∧ sp_cond q.2.2.2.2 e.2.2 = true
def sp_ty (g : sp_G) (T : List sp_E) : Prop := ∀ e ∈ T, sp_ent g T e
theorem sp_tyx_pre {g : sp_G} {T0 T : List sp_E} {q : sp_C} {xs : List sp_X} (h : T0 <+: T) (hx : sp_tyx g T0 q xs) : sp_tyx g T q xs := by
  intro j x hj
  have h1 := hx j x hj
  cases x with
  | inl n => exact h1
  | inr p =>
    obtain ⟨a1, e', a2, a3, a4⟩ := h1
    exact ⟨a1, e', sp_pre_get h a2, a3, a4⟩
theorem sp_ent_pre {g : sp_G} {T0 T : List sp_E} {e : sp_E} (h : T0 <+: T) (he : sp_ent g T0 e) : sp_ent g T e := by
  obtain ⟨q, h1, h2, h3, h4, h5⟩ := he
  exact ⟨q, h1, h2, h3, sp_tyx_pre h h4, h5⟩
theorem sp_tyx_snoc {g : sp_G} {T : List sp_E} {q : sp_C} {xs : List sp_X} {x : sp_X} (hx : sp_tyx g T q xs) (h : match x with
  | .inl n => sp_par q xs.length = 9 ∧ g.1 ≤ n ∧ n ≤ g.2.1
  | .inr p => sp_par q xs.length < 4 ∧ ∃ e', T[p.1]? = some e' ∧ e'.1 = sp_par q xs.length ∧ p = sp_att p.1 e') : sp_tyx g T q (xs ++ [x]) := by
  intro j y hj
  by_cases hl : j < xs.length
  · rw [List.getElem?_append_left hl] at hj
    exact hx j y hj
  · have h5 := (List.getElem?_eq_some_iff.mp hj).1
    simp at h5
    have : j = xs.length := by omega
    subst this
    simp at hj
    subst hj
    exact h
theorem sp_ar_of {q : sp_C} {k : Nat} (hk : k ≤ 3) (h1 : ∀ j, j < k → sp_par q j ≠ 10) (h2 : sp_par q k = 10) : sp_ar q = k := by
  unfold sp_ar
  rcases (show k = 0 ∨ k = 1 ∨ k = 2 ∨ k = 3 by omega) with rfl | rfl | rfl | rfl
  · have z : q.2.1 = 10 := h2
    rw [if_pos z]
  · have z0 : q.2.1 ≠ 10 := h1 0 (by omega)
    have z1 : q.2.2.1 = 10 := h2
    rw [if_neg z0, if_pos z1]
  · have z0 : q.2.1 ≠ 10 := h1 0 (by omega)
    have z1 : q.2.2.1 ≠ 10 := h1 1 (by omega)
    have z2 : q.2.2.2.1 = 10 := h2
    rw [if_neg z0, if_neg z1, if_pos z2]
  · have z0 : q.2.1 ≠ 10 := h1 0 (by omega)
    have z1 : q.2.2.1 ≠ 10 := h1 1 (by omega)
    have z2 : q.2.2.2.1 ≠ 10 := h1 2 (by omega)
    rw [if_neg z0, if_neg z1, if_neg z2]
theorem sp_ext_ty {g : sp_G} (hw : sp_wg g) {T0 : List sp_E} (hs : sp_srt T0) {q : sp_C} (hq : sp_wc g.2.2.1 q) : ∀ (n : Nat) (xs : List sp_X) (left : Nat) (ys : List sp_X), xs.length + n = 4 → sp_tyx g T0 q xs → ys ∈ sp_ext T0 g.1 g.2.1 q n xs left → sp_tyx g T0 q ys ∧ ys.length = sp_ar q ∧ sp_cond q.2.2.2.2 ys = true := by
  intro n
  induction n with
  | zero => intro xs left ys _ _ h; cases h
  | succ n ih =>
    intro xs left ys hl hx h
    unfold sp_ext at h
    by_cases hwr : (if sp_ah q xs.length = 0 then left ≠ 0 else left < sp_ah q xs.length)
    · rw [if_pos hwr] at h; cases h
    rw [if_neg hwr] at h
    by_cases hho : ((sp_par q xs.length = 10 ∨ q.2.2.2.2 ≠ 5) ∧ sp_cond q.2.2.2.2 xs = false)
    · rw [if_pos hho] at h; cases h
    rw [if_neg hho] at h
    by_cases h10 : sp_par q xs.length = 10
    · rw [if_pos h10] at h
      simp at h
      subst h
      refine ⟨hx, (sp_ar_of (by omega) (fun j hj => ?_) h10).symm, ?_⟩
      · have h1 := hx j _ (List.getElem?_eq_getElem hj)
        cases hc : ys[j] with
        | inl m => rw [hc] at h1; rw [h1.1]; decide
        | inr p => rw [hc] at h1; have := h1.1; omega
      · cases hc : sp_cond q.2.2.2.2 ys with
        | true => rfl
        | false => exact absurd ⟨Or.inl h10, hc⟩ hho
    rw [if_neg h10] at h
    by_cases h9 : sp_par q xs.length = 9
    · rw [if_pos h9] at h
      obtain ⟨m, hm1, hm⟩ := List.mem_flatMap.mp h
      rw [List.mem_range'] at hm1
      obtain ⟨i, hi1, hi2⟩ := hm1
      exact ih _ _ ys (by simp; omega) (sp_tyx_snoc (x := .inl m) hx ⟨h9, by omega, by omega⟩) hm
    · rw [if_neg h9] at h
      obtain ⟨v, hv, hm⟩ := List.mem_flatMap.mp h
      have hv1 := List.mem_of_mem_drop hv
      obtain ⟨r, hr⟩ := List.getElem?_of_mem hv1
      have hr2 := (List.getElem?_eq_some_iff.mp hr).1
      rw [List.length_take] at hr2
      rw [List.getElem?_take, if_pos (by omega)] at hr
      obtain ⟨e, e1, e2, e3, e4⟩ := sp_upto_in hs hr (z := left - (sp_ah q xs.length - 1)) (by omega)
      rw [e1] at hm
      simp only at hm
      split at hm
      · cases hm
      · have hk3 : xs.length < 3 := by
          rcases (show xs.length < 3 ∨ xs.length = 3 by omega) with z | z
          · exact z
          · rw [z] at h10; exact absurd rfl h10
        have hp4 : sp_par q xs.length < 4 := by
          have := hq.2.1 xs.length hk3
          have := hw.2.2.1
          omega
        exact ih _ _ ys (by simp; omega) (sp_tyx_snoc (x := .inr (sp_att v e)) hx ⟨hp4, e, e1, e2, rfl⟩) hm
theorem sp_lvl_ent {g : sp_G} (hw : sp_wg g) {T0 : List sp_E} (hs : sp_srt T0) {s : Nat} {cs : List Nat} : ∀ e ∈ sp_lvl g T0 s cs, sp_ent g T0 e := by
  intro e he
  obtain ⟨c, -, hc⟩ := List.mem_flatMap.mp he
  cases hq : g.2.2.2[c]? with
  | none => rw [hq] at hc; cases hc
  | some q =>
    rw [hq] at hc
    obtain ⟨ys, hy, rfl⟩ := List.mem_map.mp hc
    obtain ⟨a1, a2, a3⟩ := sp_ext_ty hw hs (hw.2.2.2.2 q (List.mem_of_getElem? hq)) 4 [] s ys rfl (fun j x z => by simp at z) hy
    exact ⟨q, hq, rfl, a2, a1, a3⟩
theorem sp_mk_ty {g : sp_G} (hw : sp_wg g) : ∀ (j s : Nat) (T : List sp_E), sp_srt T → sp_le T s → sp_ty g T → sp_ty g (sp_mk g j T s).1 := by
  intro j
  induction j with
  | zero => intro s T _ _ h; exact h
  | succ j ih =>
    intro s T hs hl ht
    unfold sp_mk
    split
    · exact ht
    · obtain ⟨r, hr1, hr2⟩ := sp_pushes_pre (T, false) (sp_lvl g T s (List.range g.2.2.2.length))
      have hr1 : (sp_pushes (T, false) (sp_lvl g T s (List.range g.2.2.2.length))).1 = T ++ r := hr1
      rw [hr1]
      have hrs : ∀ e ∈ r, sp_sz e = s + 1 := fun e he => sp_lvl_size hw hs e (hr2 e he)
      refine ih (s + 1) (T ++ r) (sp_srt_app hs hl hrs) (fun e he => ?_) (fun e he => ?_)
      · rcases List.mem_append.mp he with z | z
        · have := hl e z; omega
        · rw [hrs e z]; exact Nat.le_refl _
      · rcases List.mem_append.mp he with z | z
        · exact sp_ent_pre (List.prefix_append _ _) (ht e z)
        · exact sp_ent_pre (List.prefix_append _ _) (sp_lvl_ent hw hs e (hr2 e z))
theorem sp_tab_ty {g : sp_G} (hw : sp_wg g) : sp_ty g (sp_tab g).1 := sp_mk_ty hw 8 0 [] (fun v w e f _ z => by simp at z) (fun e z => absurd z List.not_mem_nil) (fun e z => absurd z List.not_mem_nil)
theorem st_cod_mono {g : sp_G} {S : cs_S} : ∀ {n m v t : Nat} {L : List Nat}, n ≤ m → st_cod g S n v t L → st_cod g S m v t L := by
  intro n
  induction n with
  | zero => intro m v t L _ z; exact z.elim
  | succ n ih =>
    intro m v t L hm h
    obtain ⟨m, rfl⟩ : ∃ k, m = k + 1 := ⟨m - 1, by omega⟩
    obtain ⟨c, q, ps, h1, h2, h3, h4, h5, h6, h7, h8⟩ := h
    refine ⟨c, q, ps, h1, h2, h3, h4, h5, h6, h7, fun j P hP => ?_⟩
    rcases h8 j P hP with z | ⟨w, w1, w2, w3⟩
    · exact Or.inl z
    · exact Or.inr ⟨w, w1, w2, ih (by omega) w3⟩
/-- the cells of the table's values spell their codes -/
theorem st_cod_of {g : sp_G} (hg : sp_wg g) {S : cs_S} {T : List sp_E} (hw : sp_wT T) (ht : sp_ty g T) (hk : ∀ v e, T[v]? = some e → sp_ok (cs_vf S v) (cs_vn S v) (cs_vp S v) e.1 e.2.1 e.2.2) : ∀ (v : Nat) (e : sp_E), T[v]? = some e → st_cod g S (sp_sz e) v e.1 (sp_cd T v) := by
  intro v
  induction v using Nat.strongRecOn with
  | _ v ih =>
    intro e he
    obtain ⟨q, a1, a2, a3, a4, a5⟩ := ht e (List.mem_of_getElem? he)
    have hok := hk v e he
    have hvl : v < T.length := (List.getElem?_eq_some_iff.mp he).1
    have hl3 := hw.1
    rw [show sp_sz e = sp_size e.2.2 + 1 by unfold sp_sz; omega]
    refine ⟨e.2.1, q, e.2.2.map (sp_pc T), by omega, a1, a2, by rw [List.length_map]; exact a3, hok.2.1, by rw [List.length_map]; exact hok.2.2.1, sp_cd_eq hw he, fun j P hP => ?_⟩
    rw [List.getElem?_map] at hP
    obtain ⟨x, hx, hx2⟩ := Option.map_eq_some_iff.mp hP
    have h4 := a4 j x hx
    cases x with
    | inl m =>
      obtain ⟨n1, n2⟩ := hok.2.2.2.2.2.2.2.2.2.2.2.1 j m hx
      exact Or.inl ⟨m, by have := hg.2.1; have := h4.2.2; omega, h4.1, hx2.symm, n1, n2⟩
    | inr p =>
      obtain ⟨w, e', w1, w2, rfl⟩ := (hw.2 v e he).2.2.2.2.2.2.2 p (List.mem_of_getElem? hx)
      have n1 := hok.2.2.2.2.2.2.2.2.2.2.2.2 j _ hx
      obtain ⟨b1, e2, b2, b3, b4⟩ := h4
      have hee : e2 = e' := Option.some.inj (b2.symm.trans w2)
      subst hee
      refine Or.inr ⟨w, b1, n1, ?_⟩
      rw [← hx2, ← b3]
      refine st_cod_mono ?_ (ih w w1 e2 w2)
      have hmem : ∀ (xs : List sp_X) (q : Nat × Nat × Nat × List Nat), .inr q ∈ xs → q.2.1 ≤ sp_size xs := by
        intro xs
        induction xs with
        | nil => intro q z; cases z
        | cons x r ih3 =>
          intro q z
          cases x with
          | inl n =>
            rcases List.mem_cons.mp z with z | z
            · cases z
            · exact ih3 q z
          | inr p =>
            rcases List.mem_cons.mp z with z | z
            · cases z; show q.2.1 ≤ q.2.1 + _; omega
            · have := ih3 q z; show q.2.1 ≤ p.2.1 + sp_size r; omega
      exact hmem e.2.2 _ (List.mem_of_getElem? hx)
theorem sp_D0 {n r : Nat} {L M : List Nat} (h : sp_D n L M r) : r = 0 ↔ L = M := by
  have hz : ∀ (L M : List Nat), L.length = M.length → (sp_ham L M = 0 ↔ L = M) := by
    intro L
    induction L with
    | nil => intro M h; cases M with | nil => simp [sp_ham] | cons a b => simp at h
    | cons a L ih =>
      intro M h
      cases M with
      | nil => simp at h
      | cons b M =>
        have := ih M (by simpa using h)
        show sp_ham ([a] ++ L) ([b] ++ M) = 0 ↔ _
        rw [sp_ham_app (L := [a]) (L' := [b]) rfl]
        by_cases hab : a = b
        · subst hab
          have h0 : sp_ham [a] [a] = 0 := by simp [sp_ham]
          rw [h0, Nat.zero_add, this]; simp
        · have h0 : sp_ham [a] [b] = 1 := by simp [sp_ham, hab]
          rw [h0]
          constructor
          · intro z; omega
          · intro z; injection z with z1; exact absurd z1 hab
  obtain ⟨h1, h2, -⟩ := h
  constructor
  · intro hr
    by_cases hs : sp_sh L = sp_sh M
    · exact (hz L M (sp_sh_len hs)).mp ((h1 hs).symm.trans hr)
    · have := h2 hs; omega
  · intro hLM
    subst hLM
    rw [h1 rfl]
    exact (hz L L rfl).mpr rfl
theorem sp_D1 {n r : Nat} {L M : List Nat} (h : sp_D n L M r) : r = 1 ↔ (sp_sh L = sp_sh M ∧ sp_ham L M = 1) := by
  obtain ⟨h1, h2, -⟩ := h
  constructor
  · intro hr
    by_cases hs : sp_sh L = sp_sh M
    · exact ⟨hs, (h1 hs).symm.trans hr⟩
    · have := h2 hs; omega
  · rintro ⟨hs, hh⟩
    rw [h1 hs, hh]
