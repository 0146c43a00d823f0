/-! ===== entries of one shape: the code decides the order; codes are told apart ===== -/
theorem sp_sh_hd (c : Nat) (l : List Nat) : sp_sh ((100 + c) :: l) = (100 + c) :: sp_sh l := by simp [sp_sh]
theorem sp_ord {g : sp_G} (hw : sp_wg g) {T : List sp_E} (hwT : sp_wT T) (hty : sp_ty g T) (hod : sp_od T) : ∀ (n v w : Nat) (e f : sp_E), w < n → v < w → T[v]? = some e → T[w]? = some f → e.1 = f.1 → sp_sh (sp_cd T v) = sp_sh (sp_cd T w) → cd_lt (sp_cd T v) (sp_cd T w) := by
  intro n
  induction n with
  | zero => intro v w e f h; exact absurd h (Nat.not_lt_zero _)
  | succ n ih =>
    intro v w e f hwn hvw he hf ht hsh
    obtain ⟨a1, a2, a3⟩ := cd_it hw hwT hty he
    obtain ⟨b1, b2, b3⟩ := cd_it hw hwT hty hf
    have hz : sp_sz e = sp_sz f := by rw [← a2, ← b2, ← ci_sh, ← ci_sh (sp_cd T w), hsh]
    have ce := sp_cd_eq hwT he
    have cf := sp_cd_eq hwT hf
    have hc : e.2.1 = f.2.1 := by
      rw [ce, cf, sp_sh_hd, sp_sh_hd] at hsh
      injection hsh with k1 _
      omega
    obtain ⟨pre, x, y, r, s, e1, e2, hxy⟩ := hod v w e f hvw he hf hz hc
    obtain ⟨q, q1, q2, q3, q4, -⟩ := hty e (List.mem_of_getElem? he)
    obtain ⟨q', q1', q2', q3', q4', -⟩ := hty f (List.mem_of_getElem? hf)
    rw [hc, q1'] at q1
    cases q1
    have hx := q4 pre.length x (by rw [e1]; simp)
    have hy := q4' pre.length y (by rw [e2]; simp)
    have ce2 : sp_cd T v = ((100 + f.2.1) :: (pre.map (sp_pc T)).flatten) ++ (sp_pc T x ++ (r.map (sp_pc T)).flatten) := by
      rw [ce, hc, e1]; simp
    have cf2 : sp_cd T w = ((100 + f.2.1) :: (pre.map (sp_pc T)).flatten) ++ (sp_pc T y ++ (s.map (sp_pc T)).flatten) := by
      rw [cf, e2]; simp
    rw [ce2, cf2]
    cases x with
    | inl m =>
      cases y with
      | inl k => exact ⟨_, m, k, _, _, rfl, rfl, hxy⟩
      | inr p => exact hxy.elim
    | inr p =>
      cases y with
      | inl k => exact hxy.elim
      | inr p' =>
        have hxy : p.1 < p'.1 := hxy
        obtain ⟨hx1, ex, hx2, hx3, hx4⟩ := hx
        obtain ⟨hy1, ey, hy2, hy3, hy4⟩ := hy
        have hpw : p'.1 < w := by
          obtain ⟨e', z1, -⟩ := sp_part_lt hwT hf (q := p') (by rw [e2]; simp)
          exact z1
        obtain ⟨-, -, x3⟩ := cd_it hw hwT hty hx2
        obtain ⟨-, -, y3⟩ := cd_it hw hwT hty hy2
        rw [hx3] at x3
        rw [hy3] at y3
        have hsh2 : sp_sh (sp_cd T p.1) ++ sp_sh ((r.map (sp_pc T)).flatten) = sp_sh (sp_cd T p'.1) ++ sp_sh ((s.map (sp_pc T)).flatten) := by
          have := hsh
          rw [ce2, cf2, sp_sh_app, sp_sh_app, sp_sh_app, sp_sh_app] at this
          exact List.append_cancel_left this
        have hsh3 := (sp_wf_sh _ _ _ _ _ _ _ x3 y3 hsh2).1
        exact cd_lt_app _ (ih p.1 p'.1 ex ey (by omega) hxy hx2 hy2 (hx3.trans hy3.symm) hsh3) _ _
theorem sp_ord2 {g : sp_G} (hw : sp_wg g) {T : List sp_E} (hwT : sp_wT T) (hty : sp_ty g T) (hod : sp_od T) {v w : Nat} (hv : v < T.length) (hwl : w < T.length) (ht : sp_tp T v = sp_tp T w) (hsh : sp_sh (sp_cd T v) = sp_sh (sp_cd T w)) : (v < w ↔ cd_lt (sp_cd T v) (sp_cd T w)) ∧ (sp_cd T v = sp_cd T w → v = w) := by
  have he : T[v]? = some T[v] := List.getElem?_eq_getElem hv
  have hf : T[w]? = some T[w] := List.getElem?_eq_getElem hwl
  have ht' : T[v].1 = T[w].1 := by
    unfold sp_tp at ht
    rw [he, hf] at ht
    exact ht
  have h1 : v < w → cd_lt (sp_cd T v) (sp_cd T w) := fun z => sp_ord hw hwT hty hod _ v w _ _ (Nat.lt_succ_self _) z he hf ht' hsh
  have h2 : w < v → cd_lt (sp_cd T w) (sp_cd T v) := fun z => sp_ord hw hwT hty hod _ w v _ _ (Nat.lt_succ_self _) z hf he ht'.symm hsh.symm
  refine ⟨⟨h1, fun z => ?_⟩, fun z => ?_⟩
  · rcases Nat.lt_trichotomy v w with k | k | k
    · exact k
    · rw [k] at z; exact (cd_lt_irr z).elim
    · exact (cd_lt_asym z (h2 k)).elim
  · rcases Nat.lt_trichotomy v w with k | k | k
    · have := h1 k; rw [z] at this; exact (cd_lt_irr this).elim
    · exact k
    · have := h2 k; rw [z] at this; exact (cd_lt_irr this).elim
theorem tb_un {g : sp_G} (hw : sp_wg g) : sp_un (sp_tab g).1 := fun _ _ hv hwl ht hc => (sp_ord2 hw (tb_ok hw).1 (sp_tab_ty hw) (tb_od hw) hv hwl ht (by rw [hc])).2 hc
/-- ranks of one type go with the places -/
theorem sp_rk_lt {T : List sp_E} {v w : Nat} (hv : v < T.length) (hw : w < T.length) (ht : sp_tp T v = sp_tp T w) : v < w ↔ sp_rk T v < sp_rk T w := by
  have h1 := sp_rk_in hv
  have h2 := sp_rk_in hw
  rw [ht] at h1
  have key : ∀ (a b x y : Nat), (sp_of T (sp_tp T w))[a]? = some x → (sp_of T (sp_tp T w))[b]? = some y → a < b → x < y := by
    intro a b x y ha hb hab
    have i1 := List.getElem?_eq_some_iff.mp ha
    have i2 := List.getElem?_eq_some_iff.mp hb
    have := List.pairwise_iff_getElem.mp (sp_of_pw T (sp_tp T w)) a b i1.1 i2.1 hab
    rw [i1.2, i2.2] at this
    exact this
  constructor
  · intro z
    rcases Nat.lt_trichotomy (sp_rk T v) (sp_rk T w) with k | k | k
    · exact k
    · rw [k, h2] at h1
      have := Option.some.inj h1
      omega
    · have := key _ _ _ _ h2 h1 k
      omega
  · exact fun z => key _ _ _ _ h1 h2 z
/-- the numbers in a code are of the range -/
theorem cd_rng {g : sp_G} {T : List sp_E} (hwT : sp_wT T) (hty : sp_ty g T) : ∀ (n v : Nat) (e : sp_E), T[v]? = some e → v < n → ∀ a ∈ sp_cd T v, 100 ≤ a ∨ (g.1 ≤ a ∧ a ≤ g.2.1) := by
  intro n
  induction n with
  | zero => intro v e _ h; exact absurd h (Nat.not_lt_zero _)
  | succ n ih =>
    intro v e he hv a ha
    rw [sp_cd_eq hwT he] at ha
    obtain ⟨q, q1, q2, q3, q4, -⟩ := hty e (List.mem_of_getElem? he)
    rcases List.mem_cons.mp ha with z | z
    · left; omega
    · obtain ⟨P, hP, haP⟩ := List.mem_flatten.mp z
      obtain ⟨x, hx, rfl⟩ := List.mem_map.mp hP
      obtain ⟨j, hj⟩ := List.getElem?_of_mem hx
      have h4 := q4 j x hj
      cases x with
      | inl m =>
        have : a = m := by simpa [sp_pc] using haP
        rw [this]; exact Or.inr h4.2
      | inr p =>
        obtain ⟨e', z1, z2, -⟩ := sp_part_lt hwT he hx
        exact ih p.1 e' z2 (by omega) a haP
