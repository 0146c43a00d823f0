/-! ===== the room: where one int is lowered, one argument differs ===== -/
def ty1 (T : List sp_E) (t : Nat) (x : sp_X) : Prop := match x with
  | .inl _ => t = 9
  | .inr p => t < 4 ∧ ∃ e', T[p.1]? = some e' ∧ e'.1 = t ∧ p = sp_att p.1 e'
def tyf (T : List sp_E) (par : Nat → Nat) (xs : List sp_X) : Prop := ∀ (j : Nat) (x : sp_X), xs[j]? = some x → ty1 T (par j) x
theorem tyf_hd {T : List sp_E} {par : Nat → Nat} {x : sp_X} {r : List sp_X} (h : tyf T par (x :: r)) : ty1 T (par 0) x := h 0 x rfl
theorem tyf_tl {T : List sp_E} {par : Nat → Nat} {x : sp_X} {r : List sp_X} (h : tyf T par (x :: r)) : tyf T (fun j => par (j + 1)) r := fun j y hj => h (j + 1) y hj
theorem sh_len {L M : List Nat} (h : sp_sh L = sp_sh M) : L.length = M.length := by
  have := congrArg List.length h
  simpa [sp_sh] using this
/-- two arguments of one type with codes ahead of equal shapes -/
theorem arg_sh {g : sp_G} (hw : sp_wg g) {t : Nat} {p p' : Nat × Nat × Nat × List Nat} {e e' : sp_E} (h1 : (sp_tab g).1[p.1]? = some e) (h2 : e.1 = t) (h1' : (sp_tab g).1[p'.1]? = some e') (h2' : e'.1 = t) {F F' : List Nat} (h : sp_sh (sp_cd (sp_tab g).1 p.1 ++ F) = sp_sh (sp_cd (sp_tab g).1 p'.1 ++ F')) : sp_sh (sp_cd (sp_tab g).1 p.1) = sp_sh (sp_cd (sp_tab g).1 p'.1) ∧ sp_sh F = sp_sh F' := by
  obtain ⟨-, -, x3⟩ := cd_it hw (tb_ok hw).1 (sp_tab_ty hw) h1
  obtain ⟨-, -, y3⟩ := cd_it hw (tb_ok hw).1 (sp_tab_ty hw) h1'
  rw [h2] at x3
  rw [h2'] at y3
  rw [sp_sh_app, sp_sh_app] at h
  exact sp_wf_sh _ _ _ _ _ _ _ x3 y3 h
theorem arg_un {g : sp_G} (hw : sp_wg g) {t : Nat} {p p' : Nat × Nat × Nat × List Nat} {e e' : sp_E} (h1 : (sp_tab g).1[p.1]? = some e) (h2 : e.1 = t) (h3 : p = sp_att p.1 e) (h1' : (sp_tab g).1[p'.1]? = some e') (h2' : e'.1 = t) (h3' : p' = sp_att p'.1 e') (h : sp_cd (sp_tab g).1 p.1 = sp_cd (sp_tab g).1 p'.1) : p = p' := by
  have hp : p.1 = p'.1 := tb_un hw _ _ (List.getElem?_eq_some_iff.mp h1).1 (List.getElem?_eq_some_iff.mp h1').1 (by unfold sp_tp; rw [h1, h1']; exact h2.trans h2'.symm) h
  rw [hp, h1'] at h1
  cases h1
  rw [h3, h3', hp]
theorem fl_inj {g : sp_G} (hw : sp_wg g) : ∀ (xs ys : List sp_X) (par : Nat → Nat), xs.length = ys.length → tyf (sp_tab g).1 par xs → tyf (sp_tab g).1 par ys → (xs.map (sp_pc (sp_tab g).1)).flatten = (ys.map (sp_pc (sp_tab g).1)).flatten → xs = ys := by
  intro xs
  induction xs with
  | nil => intro ys par hl _ _ _; exact (List.length_eq_zero_iff.mp hl.symm).symm
  | cons x xs ih =>
    intro ys par hl hx hy h
    cases ys with
    | nil => cases hl
    | cons y ys =>
      have hl' : xs.length = ys.length := Nat.succ.inj hl
      have a := tyf_hd hx
      have b := tyf_hd hy
      rw [List.map_cons, List.map_cons, List.flatten_cons, List.flatten_cons] at h
      cases x with
      | inl m =>
        cases y with
        | inl k =>
          have h : m :: (xs.map (sp_pc (sp_tab g).1)).flatten = k :: (ys.map (sp_pc (sp_tab g).1)).flatten := h
          injection h with k1 k2
          rw [k1, ih ys _ hl' (tyf_tl hx) (tyf_tl hy) k2]
        | inr p => have a : par 0 = 9 := a; have := b.1; omega
      | inr p =>
        cases y with
        | inl k => have b : par 0 = 9 := b; have := a.1; omega
        | inr p' =>
          obtain ⟨-, e, a1, a2, a3⟩ := a
          obtain ⟨-, e', b1, b2, b3⟩ := b
          have h : sp_cd (sp_tab g).1 p.1 ++ (xs.map (sp_pc (sp_tab g).1)).flatten = sp_cd (sp_tab g).1 p'.1 ++ (ys.map (sp_pc (sp_tab g).1)).flatten := h
          have s1 := (arg_sh hw a1 a2 b1 b2 (congrArg sp_sh h)).1
          obtain ⟨k1, k2⟩ := List.append_inj h (sh_len s1)
          rw [arg_un hw a1 a2 a3 b1 b2 b3 k1, ih ys _ hl' (tyf_tl hx) (tyf_tl hy) k2]
/-- one argument is lowered -/
def lowx (T : List sp_E) (x y : sp_X) : Prop := match x, y with
  | .inl a, .inl b => b < a
  | .inr p, .inr p' => sp_tp T p.1 = sp_tp T p'.1 ∧ lowd T p.1 p'.1
  | _, _ => False
theorem sh_low {P R : List Nat} {a b : Nat} (h : b < a) (ha : a < 100) : sp_sh (P ++ a :: R) = sp_sh (P ++ b :: R) := by
  unfold sp_sh
  rw [List.map_append, List.map_append, List.map_cons, List.map_cons, if_neg (by omega), if_neg (by omega)]
theorem fl_low {g : sp_G} (hw : sp_wg g) {a b : Nat} (hab : b < a) (ha : a < 100) {R : List Nat} : ∀ (xs ys : List sp_X) (par : Nat → Nat) (P : List Nat), xs.length = ys.length → tyf (sp_tab g).1 par xs → tyf (sp_tab g).1 par ys → (xs.map (sp_pc (sp_tab g).1)).flatten = P ++ a :: R → (ys.map (sp_pc (sp_tab g).1)).flatten = P ++ b :: R → ∃ pre x y r, xs = pre ++ x :: r ∧ ys = pre ++ y :: r ∧ lowx (sp_tab g).1 x y := by
  intro xs
  induction xs with
  | nil => intro ys par P _ _ _ h _; have := congrArg List.length h; simp at this
  | cons x xs ih =>
    intro ys par P hl hx hy h1 h2
    cases ys with
    | nil => cases hl
    | cons y ys =>
      have hl' : xs.length = ys.length := Nat.succ.inj hl
      have ta := tyf_hd hx
      have tb := tyf_hd hy
      rw [List.map_cons, List.flatten_cons] at h1 h2
      cases x with
      | inl m =>
        cases y with
        | inl k =>
          have h1 : m :: (xs.map (sp_pc (sp_tab g).1)).flatten = P ++ a :: R := h1
          have h2 : k :: (ys.map (sp_pc (sp_tab g).1)).flatten = P ++ b :: R := h2
          cases P with
          | nil =>
            injection h1 with k1 k2
            injection h2 with k3 k4
            have := fl_inj hw xs ys _ hl' (tyf_tl hx) (tyf_tl hy) (k2.trans k4.symm)
            subst this
            exact ⟨[], .inl m, .inl k, xs, rfl, rfl, by show k < m; omega⟩
          | cons c P =>
            injection h1 with k1 k2
            injection h2 with k3 k4
            obtain ⟨pre, x, y, r, e1, e2, e3⟩ := ih ys _ P hl' (tyf_tl hx) (tyf_tl hy) k2 k4
            exact ⟨.inl m :: pre, x, y, r, by rw [e1]; rfl, by rw [e2, k1, ← k3]; rfl, e3⟩
        | inr p => have ta : par 0 = 9 := ta; have := tb.1; omega
      | inr p =>
        cases y with
        | inl k => have tb : par 0 = 9 := tb; have := ta.1; omega
        | inr p' =>
          obtain ⟨-, e, a1, a2, a3⟩ := ta
          obtain ⟨-, e', b1, b2, b3⟩ := tb
          have h1 : sp_cd (sp_tab g).1 p.1 ++ (xs.map (sp_pc (sp_tab g).1)).flatten = P ++ a :: R := h1
          have h2 : sp_cd (sp_tab g).1 p'.1 ++ (ys.map (sp_pc (sp_tab g).1)).flatten = P ++ b :: R := h2
          have s1 := (arg_sh hw a1 a2 b1 b2 (by rw [h1, h2]; exact sh_low hab ha)).1
          have hlen := sh_len s1
          rcases List.append_eq_append_iff.mp h1 with ⟨z, z1, z2⟩ | ⟨z, z1, z2⟩
          · -- P = cd p ++ z
            rw [z1, List.append_assoc] at h2
            obtain ⟨k1, k2⟩ := List.append_inj h2 hlen.symm
            have hp := arg_un hw a1 a2 a3 b1 b2 b3 k1.symm
            subst hp
            obtain ⟨pre, x, y, r, e1, e2, e3⟩ := ih ys _ z hl' (tyf_tl hx) (tyf_tl hy) z2 k2
            exact ⟨.inr p :: pre, x, y, r, by rw [e1]; rfl, by rw [e2]; rfl, e3⟩
          · -- cd p = P ++ z
            cases z with
            | nil =>
              rw [List.append_nil] at z1
              rw [List.nil_append] at z2
              rw [← z1] at h2
              obtain ⟨k1, k2⟩ := List.append_inj h2 hlen.symm
              have hp := arg_un hw a1 a2 a3 b1 b2 b3 k1.symm
              subst hp
              obtain ⟨pre, x, y, r, e1, e2, e3⟩ := ih ys _ [] hl' (tyf_tl hx) (tyf_tl hy) z2.symm k2
              exact ⟨.inr p :: pre, x, y, r, by rw [e1]; rfl, by rw [e2]; rfl, e3⟩
            | cons c z =>
              injection z2 with k1 k2
              subst k1
              have h3 : sp_cd (sp_tab g).1 p'.1 ++ (ys.map (sp_pc (sp_tab g).1)).flatten = (P ++ b :: z) ++ (xs.map (sp_pc (sp_tab g).1)).flatten := by rw [h2, k2]; simp
              obtain ⟨k3, k4⟩ := List.append_inj h3 (by rw [← hlen, z1]; simp)
              have := fl_inj hw xs ys _ hl' (tyf_tl hx) (tyf_tl hy) k4.symm
              subst this
              refine ⟨[], .inr p, .inr p', xs, rfl, rfl, ?_, P, a, b, z, z1, k3, hab, ha⟩
              unfold sp_tp
              rw [a1, b1]
              exact a2.trans b2.symm
/-- one int lowered: the same constructor, one argument lowered -/
theorem low_args {g : sp_G} (hw : sp_wg g) {v w : Nat} {e f : sp_E} (he : (sp_tab g).1[v]? = some e) (hf : (sp_tab g).1[w]? = some f) (h : lowd (sp_tab g).1 v w) : e.2.1 = f.2.1 ∧ ∃ pre x y r, e.2.2 = pre ++ x :: r ∧ f.2.2 = pre ++ y :: r ∧ lowx (sp_tab g).1 x y := by
  obtain ⟨P, a, b, R, e1, e2, hab, ha⟩ := h
  have hT := (tb_ok hw).1
  have ce := sp_cd_eq hT he
  have cf := sp_cd_eq hT hf
  obtain ⟨q, q1, q2, q3, q4, -⟩ := sp_tab_ty hw e (List.mem_of_getElem? he)
  obtain ⟨q', q1', q2', q3', q4', -⟩ := sp_tab_ty hw f (List.mem_of_getElem? hf)
  rw [e1] at ce
  rw [e2] at cf
  cases P with
  | nil => injection ce with k1 _; omega
  | cons c P =>
    injection ce with k1 k2
    injection cf with k3 k4
    have hc : e.2.1 = f.2.1 := by omega
    rw [hc, q1'] at q1
    cases q1
    have ty : ∀ (xs : List sp_X), sp_tyx g (sp_tab g).1 q xs → tyf (sp_tab g).1 (sp_par q) xs := fun xs hx j x hj => by
      have := hx j x hj
      cases x with
      | inl n => exact this.1
      | inr p => exact this
    exact ⟨hc, fl_low hw hab ha e.2.2 f.2.2 (sp_par q) P (q3.trans q3'.symm) (ty _ q4) (ty _ q4') k2.symm k4.symm⟩
