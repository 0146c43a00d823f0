/-! ===== the reference: write, whole ===== -/
theorem cd_ent {g : sp_G} (hw : sp_wg g) {T : List sp_E} (hT : sp_wT T) (hty : sp_ty g T) : ∀ (n v : Nat) (e : sp_E), T[v]? = some e → v < n → ∀ a ∈ sp_cd T v, a ≤ 5 ∨ (100 ≤ a ∧ a ≤ 105) := by
  intro n
  induction n with
  | zero => intro v e _ h; omega
  | succ n ih =>
    intro v e he hv a ha
    rw [sp_cd_eq hT he] at ha
    obtain ⟨q, q1, q2, q3, q4, q5⟩ := hty e (List.mem_of_getElem? he)
    have hc := (List.getElem?_eq_some_iff.mp q1).1
    have h6 := hw.2.2.2.1
    rcases List.mem_cons.mp ha with z | z
    · exact Or.inr (by omega)
    · obtain ⟨P, hP, haP⟩ := List.mem_flatten.mp z
      obtain ⟨x, hx, rfl⟩ := List.mem_map.mp hP
      cases x with
      | inl m =>
        have haP : a ∈ [m] := haP
        rw [List.mem_singleton.mp haP]
        exact Or.inl ((hT.2 v e he).2.2.2.2.2.2.1 m hx)
      | inr p =>
        have haP : a ∈ sp_cd T p.1 := haP
        obtain ⟨e', z1, z2, -⟩ := sp_part_lt hT he hx
        exact ih p.1 e' z2 (by omega) a haP
theorem wg_pq {g : sp_G} (hw : sp_wg g) : ∀ q ∈ g.2.2.2, ∀ k, k < 3 → sp_par q k < 4 ∨ sp_par q k = 9 ∨ sp_par q k = 10 := fun q hq k hk => by
  have h4 := hw.2.2.1
  rcases (hw.2.2.2.2 q hq).2.1 k hk with z | z
  · exact Or.inl (by omega)
  · exact Or.inr z
theorem ci_it (L : List Nat) : ci_n L + (it_f L).length = L.length := by
  unfold ci_n it_f
  induction L with
  | nil => rfl
  | cons a r ih =>
    by_cases h : 100 ≤ a
    · rw [List.countP_cons_of_pos (by simpa using h), List.filter_cons_of_neg (by simpa using h), List.length_cons]; omega
    · rw [List.countP_cons_of_neg (by simpa using h), List.filter_cons_of_pos (by simp; omega), List.length_cons, List.length_cons]; omega
theorem cd_it {g : sp_G} (hw : sp_wg g) {T : List sp_E} (hT : sp_wT T) (hty : sp_ty g T) {v : Nat} {e : sp_E} (he : T[v]? = some e) : it_f (sp_cd T v) = sp_ints e.2.2 ∧ ci_n (sp_cd T v) = sp_sz e ∧ sp_wf g 8 e.1 (sp_cd T v) := by
  have h8 : sp_sz e ≤ 8 := (hT.2 v e he).2.2.1
  obtain ⟨P, h1, h2, h3⟩ := lk_wf hw.2.1 8 e.1 (sp_cd T v) _ (lk_cd0 hT hty he h8) (wg_pq hw) (cd_ent hw hT hty _ v e he (Nat.lt_succ_self v))
  have h1 : sp_cd T v = P ++ [] := h1
  rw [List.append_nil] at h1
  rw [← h1] at h2 h3
  have h3 : it_f (sp_cd T v) = sp_ints e.2.2 := h3
  refine ⟨h3, ?_, h2⟩
  have := ci_it (sp_cd T v)
  have hl := sp_cd_len hT v e he
  rw [h3] at this
  omega
def rf_cd (T0 : List sp_E) (a : List sp_X) : List Nat := (a.map (sp_pc T0)).flatten
theorem rf_cd_app (T0 : List sp_E) (a b : List sp_X) : rf_cd T0 (a ++ b) = rf_cd T0 a ++ rf_cd T0 b := by unfold rf_cd; rw [List.map_append, List.flatten_append]
/-- what a choice is -/
def rf_x1 (g : sp_G) (T0 : List sp_E) (p : Nat) (a : List sp_X) : Prop := (p = 10 ∧ a = []) ∨ (p = 9 ∧ ∃ k, a = [.inl k] ∧ g.1 ≤ k ∧ k ≤ g.2.1) ∨ (p < 4 ∧ ∃ v e, a = [.inr (sp_att v e)] ∧ T0[v]? = some e ∧ e.1 = p)
theorem rf_xc_1 {g : sp_G} {T0 : List sp_E} {p : Nat} (hp : p < 4 ∨ p = 9 ∨ p = 10) {a : List sp_X} (ha : a ∈ rf_xc g T0 p) : rf_x1 g T0 p a := by
  unfold rf_xc at ha
  by_cases h10 : p = 10
  · rw [if_pos h10] at ha; exact Or.inl ⟨h10, List.mem_singleton.mp ha⟩
  · rw [if_neg h10] at ha
    by_cases h9 : p = 9
    · rw [if_pos h9] at ha
      obtain ⟨k, hk, rfl⟩ := List.mem_map.mp ha
      have := List.mem_range'_1.mp hk
      exact Or.inr (Or.inl ⟨h9, k, rfl, by omega, by omega⟩)
    · rw [if_neg h9] at ha
      obtain ⟨v, hv, rfl⟩ := List.mem_map.mp ha
      obtain ⟨i, hi⟩ := List.getElem?_of_mem hv
      obtain ⟨e, f1, f2, f3⟩ := sp_of_at hi
      have he : rf_e T0 v = e := by unfold rf_e; rw [f1]; rfl
      exact Or.inr (Or.inr ⟨by omega, v, e, by rw [he], f1, f2⟩)
theorem rf_x1_cd {g : sp_G} (hw : sp_wg g) {T0 : List sp_E} (hT : sp_wT T0) (hty : sp_ty g T0) {p : Nat} {a : List sp_X} (h : rf_x1 g T0 p a) : ci_n (rf_cd T0 a) = sp_size a ∧ (∀ x ∈ rf_cd T0 a, x ≤ 5 ∨ (100 ≤ x ∧ x ≤ 105)) ∧ (rf_cd T0 a).length ≤ 4 * sp_size a + 1 := by
  rcases h with ⟨-, rfl⟩ | ⟨-, k, rfl, h1, h2⟩ | ⟨-, v, e, rfl, h1, -⟩
  · exact ⟨rfl, fun x z => (by cases z), Nat.zero_le _⟩
  · have h5 := hw.2.1
    refine ⟨?_, fun x z => ?_, by show 1 ≤ 4 * 0 + 1; omega⟩
    · show ci_n [k] = 0
      unfold ci_n
      rw [List.countP_singleton]
      simp; omega
    · have z : x ∈ [k] := z
      rw [List.mem_singleton.mp z]; exact Or.inl (by omega)
  · have e1 : rf_cd T0 [.inr (sp_att v e)] = sp_cd T0 v := by
      show sp_cd T0 v ++ [] = _
      rw [List.append_nil]
    rw [e1]
    obtain ⟨-, c2, -⟩ := cd_it hw hT hty h1
    refine ⟨c2, cd_ent hw hT hty _ v e h1 (Nat.lt_succ_self v), ?_⟩
    rw [sp_cd_len hT v e h1]
    have := (hT.2 v e h1).2.2.2.2.1
    show _ ≤ 4 * (1 + sp_size e.2.2 + 0) + 1
    unfold sp_sz
    omega
/-- three choices are arguments of the constructor -/
theorem rf_x3 {g : sp_G} {T0 : List sp_E} {q : sp_C} (hwc : sp_wc g.2.2.1 q) {a b z : List sp_X} (ha : rf_x1 g T0 q.2.1 a) (hb : rf_x1 g T0 q.2.2.1 b) (hz : rf_x1 g T0 q.2.2.2.1 z) : sp_tyx g T0 q (a ++ b ++ z) ∧ (a ++ b ++ z).length = sp_ar q := by
  have g1 := hwc.2.2.1
  have g2 := hwc.2.2.2.1
  have one : ∀ (k p : Nat) (x : List sp_X), sp_par q k = p → p ≠ 10 → rf_x1 g T0 p x → ∃ y, x = [y] ∧ (match y with | .inl n => sp_par q k = 9 ∧ g.1 ≤ n ∧ n ≤ g.2.1 | .inr p => sp_par q k < 4 ∧ ∃ e', T0[p.1]? = some e' ∧ e'.1 = sp_par q k ∧ p = sp_att p.1 e') := by
    intro k p x hk hp hx
    rcases hx with ⟨h, -⟩ | ⟨h, m, rfl, h1, h2⟩ | ⟨h, v, e, rfl, h1, h2⟩
    · exact absurd h hp
    · exact ⟨.inl m, rfl, by rw [hk]; exact h, h1, h2⟩
    · exact ⟨.inr (sp_att v e), rfl, by rw [hk]; exact h, e, h1, by rw [hk]; exact h2, rfl⟩
  have nil : ∀ (x : List sp_X), rf_x1 g T0 10 x → x = [] := by
    intro x hx
    rcases hx with ⟨-, h⟩ | ⟨h, -⟩ | ⟨h, -⟩
    · exact h
    · cases h
    · omega
  by_cases h0 : q.2.1 = 10
  · have h1 := g1 h0
    have h2 := g2 h1
    rw [h0] at ha; rw [h1] at hb; rw [h2] at hz
    rw [nil a ha, nil b hb, nil z hz]
    refine ⟨fun j x hj => by simp at hj, ?_⟩
    unfold sp_ar; rw [if_pos h0]; rfl
  · obtain ⟨y0, rfl, c0⟩ := one 0 _ a rfl h0 ha
    by_cases h1 : q.2.2.1 = 10
    · have h2 := g2 h1
      rw [h1] at hb; rw [h2] at hz
      rw [nil b hb, nil z hz]
      refine ⟨fun j x hj => ?_, ?_⟩
      · match j, hj with
        | 0, hj =>
          have : y0 = x := by simpa using hj
          subst this; exact c0
        | j + 1, hj => simp at hj
      · unfold sp_ar; rw [if_neg h0, if_pos h1]; rfl
    · obtain ⟨y1, rfl, c1⟩ := one 1 _ b rfl h1 hb
      by_cases h2 : q.2.2.2.1 = 10
      · rw [h2] at hz
        rw [nil z hz]
        refine ⟨fun j x hj => ?_, ?_⟩
        · match j, hj with
          | 0, hj =>
            have : y0 = x := by simpa using hj
            subst this; exact c0
          | 1, hj =>
            have : y1 = x := by simpa using hj
            subst this; exact c1
          | j + 2, hj => simp at hj
        · unfold sp_ar; rw [if_neg h0, if_neg h1, if_pos h2]; rfl
      · obtain ⟨y2, rfl, c2⟩ := one 2 _ z rfl h2 hz
        refine ⟨fun j x hj => ?_, ?_⟩
        · match j, hj with
          | 0, hj =>
            have : y0 = x := by simpa using hj
            subst this; exact c0
          | 1, hj =>
            have : y1 = x := by simpa using hj
            subst this; exact c1
          | 2, hj =>
            have : y2 = x := by simpa using hj
            subst this; exact c2
          | j + 3, hj => simp at hj
        · unfold sp_ar; rw [if_neg h0, if_neg h1, if_neg h2]; rfl
theorem sp_of_pre (T0 N : List sp_E) (u : Nat) : ∃ X, sp_of (T0 ++ N) u = sp_of T0 u ++ X := by
  have key : ∀ (m : Nat) (N : List sp_E), N.length = m → ∃ X, sp_of (T0 ++ N) u = sp_of T0 u ++ X := by
    intro m
    induction m with
    | zero => intro N hN; rw [List.length_eq_zero_iff.mp hN, List.append_nil]; exact ⟨[], (List.append_nil _).symm⟩
    | succ m ih =>
      intro N hN
      have hne : N ≠ [] := fun e => by rw [e] at hN; cases hN
      rw [← List.dropLast_concat_getLast hne]
      obtain ⟨X, hX⟩ := ih N.dropLast (by rw [List.length_dropLast]; omega)
      rw [← List.append_assoc, sp_of_snoc, hX, List.append_assoc]
      exact ⟨_, rfl⟩
  exact key N.length N rfl
theorem sp_of_take {T0 T : List sp_E} {s : Nat} (hp : T0 <+: T) (hle : sp_le T0 s) (hN : ∀ v e, T[v]? = some e → T0.length ≤ v → sp_sz e = s + 1) (u : Nat) : (sp_of T u).take (sp_upto T u s) = sp_of T0 u := by
  obtain ⟨N, rfl⟩ := hp
  have hn : ∀ e ∈ N, sp_sz e = s + 1 := fun e he => by
    obtain ⟨i, hi⟩ := List.getElem?_of_mem he
    exact hN (T0.length + i) e (by rw [List.getElem?_append_right (by omega)]; rw [show T0.length + i - T0.length = i by omega]; exact hi) (by omega)
  rw [sp_upto_app hn u s (Nat.le_refl _), sp_upto_all hle, ← sp_of_len]
  obtain ⟨X, hX⟩ := sp_of_pre T0 N u
  rw [hX]
  exact List.take_left' rfl
/-- what writing leaves as it was -/
def rw_fr (R R' : rw_S) : Prop := (∀ i, i ≠ 14 → i ≠ 20 → i ≠ 21 → R'.1 i = R.1 i) ∧ (∀ i, i < 6 ∨ i = 11 → R'.2.1 i = R.2.1 i)
theorem rw_fr_rfl (R : rw_S) : rw_fr R R := ⟨fun _ _ _ _ => rfl, fun _ _ => rfl⟩
theorem rw_fr_tr {R1 R2 R3 : rw_S} (a : rw_fr R1 R2) (b : rw_fr R2 R3) : rw_fr R1 R3 := ⟨fun i x y z => (b.1 i x y z).trans (a.1 i x y z), fun i x => (b.2 i x).trans (a.2 i x)⟩
theorem rw_fr_g {R R' : rw_S} {g : sp_G} (h : rw_fr R R') (hg : rw_gr R g) : rw_gr R' g := by
  refine ⟨(h.1 1 (by decide) (by decide) (by decide)).trans hg.1, (h.1 2 (by decide) (by decide) (by decide)).trans hg.2.1, (h.1 3 (by decide) (by decide) (by decide)).trans hg.2.2.1, (h.1 4 (by decide) (by decide) (by decide)).trans hg.2.2.2.1, ?_⟩
  rw [h.2 1 (by decide), h.2 2 (by decide), h.2 3 (by decide)]
  exact hg.2.2.2.2
theorem rw_T_push {A : rw_Ad} {R R' : rw_S} {h h' : ax_H} {T : List sp_E} {e : sp_E} {s : Nat} (hT : rw_T A R h T) (hw : sp_wT T) (hw' : sp_wT (T ++ [e])) (hps : w_ps A R h R' h' T.length s (1 + sp_max (sp_hts e.2.2)) e.1 (sp_cnt T e.1) (sp_cd (T ++ [e]) T.length)) (hs : sp_sz e = s + 1) : rw_T A R' h' (T ++ [e]) := by
  obtain ⟨p1, ⟨b, p2, p3⟩, p4, p5, p6, p7, p8, p9⟩ := hps
  have hl := hw'.1
  rw [List.length_append] at hl
  have hl : T.length + 1 ≤ 300 := hl
  have he4 : e.1 < 4 := (hw'.2 T.length e (by rw [List.getElem?_append_right (Nat.le_refl _), Nat.sub_self]; rfl)).1
  refine ⟨?_, fun t ht => ?_, fun v f hv => ?_⟩
  · rw [p1, pk_us, List.length_append]; rfl
  · rw [p9, sp_cnt_snoc]
    by_cases hte : t = e.1
    · rw [if_pos hte.symm, hte, pk_us]
    · rw [if_neg (fun z => hte z.symm), pk_un hte]; exact hT.2.1 t ht
  · by_cases hvl : v < T.length
    · rw [List.getElem?_append_left hvl] at hv
      obtain ⟨⟨b', c1, c2⟩, c3, c4, c5⟩ := hT.2.2 v f hv
      have hcd : sp_cd (T ++ [e]) v = sp_cd T v := sp_cd_pre (List.prefix_append T [e]) hvl
      have htk : (T ++ [e]).take v = T.take v := by rw [List.take_append_of_le_length (by omega)]
      refine ⟨⟨b', by rw [p2, va_up_ne _ _ (by omega)]; exact c1, by rw [hcd]; exact rw_row_le p4 c2⟩, by rw [p6, pk_un (by omega)]; exact c3, by rw [p7, pk_un (by omega)]; exact c4, ?_⟩
      rw [htk, p8, pk_un]
      · exact c5
      · have hr : sp_cnt (T.take v) f.1 < sp_cnt T f.1 := by
          have := (List.getElem?_eq_some_iff.mp (sp_of_in hv)).1
          rwa [sp_of_len] at this
        have k1 := sp_cnt_le T f.1
        have k2 := sp_cnt_le T e.1
        have f4 := (hw.2 v f hv).1
        intro z
        by_cases hte : f.1 = e.1
        · rw [hte] at z hr; omega
        · omega
    · have hv2 := (List.getElem?_eq_some_iff.mp hv).1
      rw [List.length_append] at hv2
      have hv2 : v < T.length + 1 := hv2
      have hve : v = T.length := by omega
      subst hve
      rw [List.getElem?_append_right (Nat.le_refl _), Nat.sub_self] at hv
      have hv : e = f := by simpa using hv
      subst hv
      have htk : (T ++ [e]).take T.length = T := by rw [List.take_append_of_le_length (Nat.le_refl _), List.take_length]
      refine ⟨⟨b, by rw [p2, va_up_self], p3⟩, by rw [p6, pk_us, hs], by rw [p7, pk_us], ?_⟩
      rw [htk, p8, pk_us]
/-- the slots that a table's codes take -/
def rf_slots (T : List sp_E) : Nat := (T.map (fun e => sp_sz e + (sp_ints e.2.2).length)).sum
theorem rf_slots_snoc (T : List sp_E) (e : sp_E) : rf_slots (T ++ [e]) = rf_slots T + (sp_sz e + (sp_ints e.2.2).length) := by unfold rf_slots; rw [List.map_append, List.sum_append]; simp
theorem sp_pushes_cons (T : List sp_E) (e : sp_E) (l : List sp_E) (h : T.length < 300) : sp_pushes (T, false) (e :: l) = sp_pushes (T ++ [e], false) l := by
  show sp_pushes (sp_push (T, false) e) l = _
  unfold sp_push
  rw [if_neg (fun z => by cases z), if_neg (show ¬ (T, false).1.length = 300 by show ¬ T.length = 300; omega)]
theorem sp_pushes_over (T : List sp_E) (e : sp_E) (l : List sp_E) (h : T.length = 300) : sp_pushes (T, false) (e :: l) = (T, true) := by
  show sp_pushes (sp_push (T, false) e) l = _
  unfold sp_push
  rw [if_neg (fun z => by cases z), if_pos (show (T, false).1.length = 300 from h)]
  exact sp_pushes_full T l
theorem rf_pushes_pre : ∀ (l : List sp_E) (T : List sp_E) (b : Bool), T.length ≤ 300 → T <+: (sp_pushes (T, b) l).1 ∧ (sp_pushes (T, b) l).1.length ≤ 300 ∧ rf_slots T ≤ rf_slots (sp_pushes (T, b) l).1 := by
  intro l
  induction l with
  | nil => intro T b h; exact ⟨List.prefix_rfl, h, Nat.le_refl _⟩
  | cons e l ih =>
    intro T b h
    cases b with
    | true => rw [sp_pushes_full]; exact ⟨List.prefix_rfl, h, Nat.le_refl _⟩
    | false =>
      by_cases hl : T.length = 300
      · rw [sp_pushes_over T e l hl]; exact ⟨List.prefix_rfl, h, Nat.le_refl _⟩
      · rw [sp_pushes_cons T e l (by omega)]
        obtain ⟨h1, h2, h3⟩ := ih (T ++ [e]) false (by rw [List.length_append]; show T.length + 1 ≤ 300; omega)
        refine ⟨List.IsPrefix.trans (List.prefix_append T [e]) h1, h2, ?_⟩
        rw [rf_slots_snoc] at h3
        omega

