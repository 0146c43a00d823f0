/-! ===== the table's order: codes of one shape are in lexical order ===== -/
def sp_xl (x y : sp_X) : Prop := match x, y with
  | .inl m, .inl n => m < n
  | .inr p, .inr q => p.1 < q.1
  | _, _ => False
def sp_lx (xs ys : List sp_X) : Prop := ∃ pre x y r s, xs = pre ++ x :: r ∧ ys = pre ++ y :: s ∧ sp_xl x y
def cd_lt (L M : List Nat) : Prop := ∃ (pre : List Nat) (a b : Nat) (r s : List Nat), L = pre ++ a :: r ∧ M = pre ++ b :: s ∧ a < b
theorem cd_lt_asym {L M : List Nat} (h1 : cd_lt L M) (h2 : cd_lt M L) : False := by
  obtain ⟨p, a, b, r, s, e1, e2, e3⟩ := h1
  obtain ⟨p', a', b', r', s', f1, f2, f3⟩ := h2
  have g1 := e1.symm.trans f2
  have g2 := e2.symm.trans f1
  clear e1 e2 f1 f2
  induction p generalizing p' with
  | nil =>
    cases p' with
    | nil =>
      injection g1 with k1 _
      injection g2 with k2 _
      omega
    | cons c p' =>
      injection g1 with k1 _
      injection g2 with k2 _
      omega
  | cons c p ih =>
    cases p' with
    | nil =>
      injection g1 with k1 _
      injection g2 with k2 _
      omega
    | cons c' p' =>
      injection g1 with _ k1
      injection g2 with _ k2
      exact ih p' k1 k2
theorem cd_lt_irr {L : List Nat} (h : cd_lt L L) : False := cd_lt_asym h h
theorem cd_lt_app (p : List Nat) {L M : List Nat} (h : cd_lt L M) (r s : List Nat) : cd_lt (p ++ (L ++ r)) (p ++ (M ++ s)) := by
  obtain ⟨q, a, b, r1, s1, e1, e2, e3⟩ := h
  exact ⟨p ++ q, a, b, r1 ++ r, s1 ++ s, by rw [e1]; simp, by rw [e2]; simp, e3⟩
theorem sp_of_pw (T : List sp_E) (t : Nat) : (sp_of T t).Pairwise (fun a b => a < b) := List.Pairwise.filter _ List.pairwise_lt_range
theorem rf_full_pw {g : sp_G} {T0 : List sp_E} {q : sp_C} : ∀ (n : Nat) (xs : List sp_X) (left : Nat), (rf_full g T0 q n xs left).Pairwise sp_lx := by
  intro n
  induction n with
  | zero => intro xs left; exact List.Pairwise.nil
  | succ n ih =>
    intro xs left
    unfold rf_full
    by_cases h10 : sp_par q xs.length = 10
    · rw [if_pos h10]
      split
      · exact List.pairwise_singleton _ _
      · exact List.Pairwise.nil
    · rw [if_neg h10, List.pairwise_flatMap]
      constructor
      · intro a _
        split
        · exact ih _ _
        · exact List.Pairwise.nil
      · have hpw : (rf_xc g T0 (sp_par q xs.length)).Pairwise (fun a b => ∃ x y, a = [x] ∧ b = [y] ∧ sp_xl x y) := by
          unfold rf_xc
          rw [if_neg h10]
          split
          · rw [List.pairwise_map]
            exact List.Pairwise.imp (fun {a b} hab => ⟨_, _, rfl, rfl, hab⟩) (List.pairwise_lt_range' (s := g.1) (n := g.2.1 + 1 - g.1) (step := 1))
          · rw [List.pairwise_map]
            exact List.Pairwise.imp (fun {a b} hab => ⟨_, _, rfl, rfl, hab⟩) (sp_of_pw T0 _)
        refine List.Pairwise.imp (fun {a b} hab => ?_) hpw
        obtain ⟨x, y, rfl, rfl, hxy⟩ := hab
        intro u hu w hw
        split at hu
        · split at hw
          · obtain ⟨r, r1, -⟩ := rf_full_mem n _ _ u hu
            obtain ⟨s, s1, -⟩ := rf_full_mem n _ _ w hw
            exact ⟨xs, x, y, r, s, by rw [r1]; simp, by rw [s1]; simp, hxy⟩
          · cases hw
        · cases hu
/-- of one size and one constructor: the arguments are in order -/
def sp_od (T : List sp_E) : Prop := ∀ (v w : Nat) (e f : sp_E), v < w → T[v]? = some e → T[w]? = some f → sp_sz e = sp_sz f → e.2.1 = f.2.1 → sp_lx e.2.2 f.2.2
theorem sp_pushes_ok : ∀ (l T : List sp_E), (sp_pushes (T, false) l).2 = false → (sp_pushes (T, false) l).1 = T ++ l := by
  intro l
  induction l with
  | nil => intro T _; exact (List.append_nil T).symm
  | cons e l ih =>
    intro T h
    by_cases hT : T.length = 300
    · rw [sp_pushes_over T e l hT] at h; cases h
    · have h1 : sp_pushes (T, false) (e :: l) = sp_pushes (T ++ [e], false) l := by
        show sp_pushes (sp_push (T, false) e) l = _
        congr 1
        show (if false = true then (T, false) else if T.length = 300 then (T, true) else (T ++ [e], false)) = _
        rw [if_neg (by decide), if_neg hT]
      rw [h1] at h ⊢
      rw [ih _ h, List.append_assoc]; rfl
theorem sp_lvl_pw {g : sp_G} (hw : sp_wg g) {T0 : List sp_E} (hs : sp_srt T0) (s : Nat) : (sp_lvl g T0 s (List.range g.2.2.2.length)).Pairwise (fun e f => e.2.1 = f.2.1 → sp_lx e.2.2 f.2.2) := by
  unfold sp_lvl
  rw [List.pairwise_flatMap]
  constructor
  · intro c _
    cases hc : g.2.2.2[c]? with
    | none => exact List.Pairwise.nil
    | some q =>
      show ((sp_ext T0 g.1 g.2.1 q 4 [] s).map (fun ys => (q.1, c, ys))).Pairwise _
      rw [List.pairwise_map, rf_ext hw hs (List.mem_of_getElem? hc) 4 [] s rfl]
      refine List.Pairwise.imp ?_ (rf_full_pw (g := g) (T0 := T0) (q := q) 4 [] s)
      intro a b hab _
      exact hab
  · refine List.Pairwise.imp (fun {a b} hab => ?_) List.pairwise_lt_range
    intro x hx y hy hxy
    have h1 : ∀ (c : Nat) (z : sp_E), z ∈ (match g.2.2.2[c]? with
      | some q => (sp_ext T0 g.1 g.2.1 q 4 [] s).map (fun ys => (q.1, c, ys))
      | none => []) → z.2.1 = c := by
      intro c z hz
      cases hc : g.2.2.2[c]? with
      | none => rw [hc] at hz; cases hz
      | some q =>
        rw [hc] at hz
        obtain ⟨ys, -, rfl⟩ := List.mem_map.mp hz
        rfl
    rw [h1 a x hx, h1 b y hy] at hxy
    omega
theorem sp_od_app {T r : List sp_E} {s : Nat} (h : sp_od T) (hl : sp_le T s) (hr : ∀ e ∈ r, sp_sz e = s + 1) (hp : r.Pairwise (fun e f => e.2.1 = f.2.1 → sp_lx e.2.2 f.2.2)) : sp_od (T ++ r) := by
  intro v w e f hvw he hf hz hc
  by_cases hw : w < T.length
  · rw [List.getElem?_append_left hw] at hf
    rw [List.getElem?_append_left (by omega)] at he
    exact h v w e f hvw he hf hz hc
  · rw [List.getElem?_append_right (by omega)] at hf
    have hf1 := hr f (List.mem_of_getElem? hf)
    by_cases hv : v < T.length
    · rw [List.getElem?_append_left hv] at he
      have := hl e (List.mem_of_getElem? he)
      omega
    · rw [List.getElem?_append_right (by omega)] at he
      have i1 := (List.getElem?_eq_some_iff.mp he)
      have i2 := (List.getElem?_eq_some_iff.mp hf)
      have := List.pairwise_iff_getElem.mp hp (v - T.length) (w - T.length) i1.1 i2.1 (by omega)
      rw [i1.2, i2.2] at this
      exact this hc
theorem sp_mk_od {g : sp_G} (hw : sp_wg g) : ∀ (j s : Nat) (T : List sp_E), sp_srt T → sp_le T s → sp_od T → sp_od (sp_mk g j T s).1 := by
  intro j
  induction j with
  | zero => intro s T _ _ h; exact h
  | succ j ih =>
    intro s T hs hl ht
    unfold sp_mk
    split
    · exact ht
    · rename_i hb
      have hb : (sp_pushes (T, false) (sp_lvl g T s (List.range g.2.2.2.length))).2 = false := by simpa using hb
      rw [sp_pushes_ok _ _ hb]
      have hrs : ∀ e ∈ sp_lvl g T s (List.range g.2.2.2.length), sp_sz e = s + 1 := fun e he => sp_lvl_size hw hs e he
      refine ih (s + 1) _ (sp_srt_app hs hl hrs) (fun e he => ?_) (sp_od_app ht hl hrs (sp_lvl_pw hw hs s))
      rcases List.mem_append.mp he with z | z
      · have := hl e z; omega
      · rw [hrs e z]; exact Nat.le_refl _
theorem tb_od {g : sp_G} (hw : sp_wg g) : sp_od (sp_tab g).1 := sp_mk_od hw 8 0 [] (fun v w e f _ z => by simp at z) (fun e z => absurd z List.not_mem_nil) (fun v w e f _ z => by simp at z)
theorem ci_sh (L : List Nat) : ci_n (sp_sh L) = ci_n L := by
  induction L with
  | nil => rfl
  | cons a L ih =>
    by_cases h : 100 ≤ a
    · have : sp_sh (a :: L) = a :: sp_sh L := by simp [sp_sh, h]
      rw [this]
      simp only [ci_n] at ih ⊢
      first | simp [ih] | (simp [List.countP_cons, ih]) | omega
    · have : sp_sh (a :: L) = 0 :: sp_sh L := by simp [sp_sh, h]
      rw [this]
      simp only [ci_n] at ih ⊢
      first | simp [ih, h] | (simp [List.countP_cons, ih, h])
