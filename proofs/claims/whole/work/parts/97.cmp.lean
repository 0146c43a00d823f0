/-! ===== what can be read is in the table ===== -/
theorem mk_pre (g : sp_G) : ∀ (j s : Nat) (T : List sp_E), T <+: (sp_mk g j T s).1 := by
  intro j
  induction j with
  | zero => intro s T; exact List.prefix_rfl
  | succ j ih =>
    intro s T
    unfold sp_mk
    split
    · exact List.prefix_rfl
    · rename_i hb
      have hb : (sp_pushes (T, false) (sp_lvl g T s (List.range g.2.2.2.length))).2 = false := by simpa using hb
      rw [sp_pushes_ok _ _ hb]
      exact List.IsPrefix.trans (List.prefix_append _ _) (ih (s + 1) _)
theorem mk_step {g : sp_G} (hw : sp_wg g) {T : List sp_E} {s : Nat} (hs : sp_srt T) (hl : sp_le T s) : sp_srt (T ++ sp_lvl g T s (List.range g.2.2.2.length)) ∧ sp_le (T ++ sp_lvl g T s (List.range g.2.2.2.length)) (s + 1) := by
  have hrs : ∀ e ∈ sp_lvl g T s (List.range g.2.2.2.length), sp_sz e = s + 1 := fun e he => sp_lvl_size hw hs e he
  refine ⟨sp_srt_app hs hl hrs, fun e he => ?_⟩
  rcases List.mem_append.mp he with z | z
  · have := hl e z; omega
  · rw [hrs e z]; exact Nat.le_refl _
theorem mk_gt {g : sp_G} (hw : sp_wg g) : ∀ (j s : Nat) (T : List sp_E), sp_srt T → sp_le T s → ∀ v e, (sp_mk g j T s).1[v]? = some e → T.length ≤ v → s < sp_sz e := by
  intro j
  induction j with
  | zero =>
    intro s T _ _ v e he hv
    have : v < T.length := (List.getElem?_eq_some_iff.mp he).1
    omega
  | succ j ih =>
    intro s T hs hl v e he hv
    unfold sp_mk at he
    split at he
    · have : v < T.length := (List.getElem?_eq_some_iff.mp he).1
      omega
    · rename_i hb
      have hb : (sp_pushes (T, false) (sp_lvl g T s (List.range g.2.2.2.length))).2 = false := by simpa using hb
      rw [sp_pushes_ok _ _ hb] at he
      obtain ⟨m1, m2⟩ := mk_step hw hs hl
      by_cases hv2 : v < (T ++ sp_lvl g T s (List.range g.2.2.2.length)).length
      · obtain ⟨r, hr⟩ := mk_pre g j (s + 1) (T ++ sp_lvl g T s (List.range g.2.2.2.length))
        rw [← hr, List.getElem?_append_left hv2, List.getElem?_append_right hv] at he
        have := sp_lvl_size hw hs e (List.mem_of_getElem? he)
        omega
      · have := ih (s + 1) _ m1 m2 v e he (by omega)
        omega
theorem mk_lv {g : sp_G} (hw : sp_wg g) : ∀ (j s : Nat) (T : List sp_E), sp_srt T → sp_le T s → ∀ s', s ≤ s' → s' < (sp_mk g j T s).2 → ∃ Ts, sp_srt Ts ∧ sp_le Ts s' ∧ (Ts ++ sp_lvl g Ts s' (List.range g.2.2.2.length)) <+: (sp_mk g j T s).1 ∧ ∀ v e, (sp_mk g j T s).1[v]? = some e → sp_sz e ≤ s' → v < Ts.length := by
  intro j
  induction j with
  | zero =>
    intro s T _ _ s' h1 h2
    have : s' < s := h2
    omega
  | succ j ih =>
    intro s T hs hl s' h1 h2
    have hgt := mk_gt hw (j + 1) s T hs hl
    unfold sp_mk at h2 hgt ⊢
    by_cases hb : (sp_pushes (T, false) (sp_lvl g T s (List.range g.2.2.2.length))).2 = true
    · rw [if_pos hb] at h2
      have : s' < s := h2
      omega
    · rw [if_neg hb] at h2 hgt ⊢
      have hb : (sp_pushes (T, false) (sp_lvl g T s (List.range g.2.2.2.length))).2 = false := by simpa using hb
      rw [sp_pushes_ok _ _ hb] at h2 hgt ⊢
      obtain ⟨m1, m2⟩ := mk_step hw hs hl
      by_cases hss : s' = s
      · subst hss
        refine ⟨T, hs, hl, mk_pre g j (s' + 1) _, fun v e he hz => Nat.lt_of_not_le (fun hv => ?_)⟩
        have := hgt v e he hv
        omega
      · exact ih (s + 1) _ m1 m2 s' (by omega) h2
theorem sp_ar_par {ty : Nat} {q : sp_C} (hq : sp_wc ty q) {k : Nat} : (k < sp_ar q → sp_par q k ≠ 10) ∧ sp_par q (sp_ar q) = 10 := by
  have h1 := hq.2.2.1
  have h2 := hq.2.2.2.1
  unfold sp_ar
  constructor
  · intro hk
    rcases (show k = 0 ∨ k = 1 ∨ k = 2 ∨ 3 ≤ k by omega) with rfl | rfl | rfl | h3
    · show q.2.1 ≠ 10
      intro z; rw [if_pos z] at hk; omega
    · show q.2.2.1 ≠ 10
      intro z
      split at hk
      · omega
      · omega
    · show q.2.2.2.1 ≠ 10
      intro z
      split at hk
      · omega
      · split at hk
        · omega
        · omega
    · split at hk
      · omega
      · split at hk
        · omega
        · split at hk <;> omega
  · split
    · assumption
    · split
      · assumption
      · split
        · assumption
        · rfl
theorem full_in {g : sp_G} {T0 : List sp_E} {q : sp_C} {ty : Nat} (hq : sp_wc ty q) (h4 : ty ≤ 4) : ∀ (suf pre : List sp_X) (n left : Nat), pre.length + n = 4 → (pre ++ suf).length = sp_ar q → (∀ j x, suf[j]? = some x → [x] ∈ rf_xc g T0 (sp_par q (pre.length + j))) → sp_size suf = left → sp_cond q.2.2.2.2 (pre ++ suf) = true → pre ++ suf ∈ rf_full g T0 q n pre left := by
  intro suf
  induction suf with
  | nil =>
    intro pre n left hn hl _ hz hc
    rw [List.append_nil] at hl hc ⊢
    have har := sp_ar_le q
    obtain ⟨n, rfl⟩ : ∃ m, n = m + 1 := ⟨n - 1, by omega⟩
    have hz : 0 = left := hz
    have h10 : sp_par q pre.length = 10 := by rw [hl]; exact (sp_ar_par hq (k := 0)).2
    unfold rf_full
    rw [if_pos h10, if_pos ⟨hz.symm, hc⟩]
    exact List.mem_cons_self
  | cons x suf ih =>
    intro pre n left hn hl hx hz hc
    have har := sp_ar_le q
    have hlen : pre.length + (suf.length + 1) = sp_ar q := by rw [List.length_append] at hl; exact hl
    obtain ⟨n, rfl⟩ : ∃ m, n = m + 1 := ⟨n - 1, by omega⟩
    have h10 : sp_par q pre.length ≠ 10 := (sp_ar_par hq).1 (by omega)
    have hxm := hx 0 x rfl
    have hz1 : sp_size [x] + sp_size suf = left := by
      rw [← hz, show x :: suf = [x] ++ suf from rfl, sp_size_app]
    unfold rf_full
    rw [if_neg h10]
    refine List.mem_flatMap.mpr ⟨[x], hxm, ?_⟩
    rw [if_pos (by omega), show pre ++ x :: suf = (pre ++ [x]) ++ suf by simp]
    refine ih (pre ++ [x]) n _ (by rw [List.length_append]; show pre.length + 1 + n = 4; omega) ?_ (fun j y hj => ?_) (by omega) ?_
    · rw [List.append_assoc]; exact hl
    · have := hx (j + 1) y hj
      rw [List.length_append]
      rw [show pre.length + (j + 1) = pre.length + [x].length + j by simp; omega] at this
      exact this
    · rw [List.append_assoc]; exact hc
theorem tb_mem {g : sp_G} (hw : sp_wg g) {c : Nat} {q : sp_C} {xs : List sp_X} (hc : g.2.2.2[c]? = some q) (hl : xs.length = sp_ar q) (hx : sp_tyx g (sp_tab g).1 q xs) (hcd : sp_cond q.2.2.2.2 xs = true) (hz : 1 + sp_size xs ≤ (sp_tab g).2) : (q.1, c, xs) ∈ (sp_tab g).1 := by
  obtain ⟨Ts, t1, t2, t3, t4⟩ := mk_lv hw 8 0 [] (fun v w e f _ z => by simp at z) (fun e z => absurd z List.not_mem_nil) (sp_size xs) (Nat.zero_le _) (show sp_size xs < (sp_tab g).2 by omega)
  have t3 : (Ts ++ sp_lvl g Ts (sp_size xs) (List.range g.2.2.2.length)) <+: (sp_tab g).1 := t3
  have hqm := List.mem_of_getElem? hc
  have hwc := hw.2.2.2.2 q hqm
  have hin : xs ∈ rf_full g Ts q 4 [] (sp_size xs) := by
    refine full_in hwc hw.2.2.1 xs [] 4 (sp_size xs) rfl hl (fun j x hj => ?_) rfl hcd
    have h1 := hx j x hj
    rw [show ([] : List sp_X).length + j = j by simp]
    unfold rf_xc
    cases x with
    | inl m =>
      rw [if_neg (by rw [h1.1]; decide), if_pos h1.1]
      exact List.mem_map.mpr ⟨m, List.mem_range'.mpr ⟨m - g.1, by omega, by omega⟩, rfl⟩
    | inr p =>
      obtain ⟨p1, e', p2, p3, p4⟩ := h1
      rw [if_neg (by omega), if_neg (by omega)]
      have hpz : sp_sz e' ≤ sp_size xs := by
        have := sp_size_mem xs p (List.mem_of_getElem? hj)
        rw [p4] at this
        exact this
      have hpl := t4 p.1 e' p2 hpz
      obtain ⟨r, hr⟩ := t3
      have p2' : Ts[p.1]? = some e' := by
        rw [← hr, List.append_assoc, List.getElem?_append_left hpl] at p2
        exact p2
      have hof := sp_of_in p2'
      rw [p3] at hof
      refine List.mem_map.mpr ⟨p.1, List.mem_of_getElem? hof, ?_⟩
      have : rf_e Ts p.1 = e' := by unfold rf_e; rw [p2']; rfl
      rw [this, ← p4]
  have hlv : (q.1, c, xs) ∈ sp_lvl g Ts (sp_size xs) (List.range g.2.2.2.length) := by
    refine List.mem_flatMap.mpr ⟨c, List.mem_range.mpr (List.getElem?_eq_some_iff.mp hc).1, ?_⟩
    rw [hc]
    refine List.mem_map.mpr ⟨xs, ?_, rfl⟩
    rw [rf_ext hw t1 hqm 4 [] _ rfl]; exact hin
  exact t3.subset (List.mem_append_right _ hlv)
theorem lka_cp {g : sp_G} (hw : sp_wg g) {T : List sp_E} {q : sp_C} (hwc : sp_wc g.2.2.1 q) {H : Nat} {F : Nat → List Nat → Option sp_P} (hF : ∀ t L p, F t L = some p → p.1.1 ≤ H → ∃ w e, T[w]? = some e ∧ e.1 = t ∧ L = sp_cd T w ++ p.2 ∧ p.1 = (sp_sz e, 1 + sp_max (sp_hts e.2.2), sp_ints e.2.2)) : ∀ (j k : Nat) (dn : List sp_X) (L : List Nat) (ys : List sp_X) (R : List Nat), sp_lka F g q j k (dn.map sp_x0) L = some (ys, R) → dn.length = k → k + j = 3 → sp_tyx g T q dn → sp_size ys ≤ H → ∃ xs, ys = xs.map sp_x0 ∧ (∃ r, xs = dn ++ r ∧ L = (r.map (sp_pc T)).flatten ++ R) ∧ sp_tyx g T q xs ∧ xs.length = sp_ar q := by
  have hne : ∀ (dn : List sp_X), sp_tyx g T q dn → ∀ j, j < dn.length → sp_par q j ≠ 10 := fun dn hx j hj => by
    have h1 := hx j _ (List.getElem?_eq_getElem hj)
    cases hc : dn[j] with
    | inl m => rw [hc] at h1; rw [h1.1]; decide
    | inr p => rw [hc] at h1; have := h1.1; omega
  intro j
  induction j with
  | zero =>
    intro k dn L ys R h hd hk hx _
    unfold sp_lka at h
    cases h
    refine ⟨dn, rfl, ⟨[], (List.append_nil _).symm, rfl⟩, hx, ?_⟩
    exact (sp_ar_of (by omega) (hne dn hx) (by rw [hd, show k = 3 by omega]; rfl)).symm
  | succ j ih =>
    intro k dn L ys R h hd hk hx hz
    by_cases h10 : sp_par q k = 10
    · rw [sp_lka_10 h10] at h
      cases h
      exact ⟨dn, rfl, ⟨[], (List.append_nil _).symm, rfl⟩, hx, (sp_ar_of (by omega) (hne dn hx) (by rw [hd]; exact h10)).symm⟩
    · by_cases h9 : sp_par q k = 9
      · rw [sp_lka_9 h9] at h
        cases L with
        | nil => cases h
        | cons a L =>
          have h : (if g.1 ≤ a ∧ a ≤ g.2.1 then sp_lka F g q j (k + 1) (dn.map sp_x0 ++ [.inl a]) L else none) = some (ys, R) := h
          by_cases ha : g.1 ≤ a ∧ a ≤ g.2.1
          · rw [if_pos ha, show dn.map sp_x0 ++ [.inl a] = (dn ++ [(.inl a : sp_X)]).map sp_x0 by simp [sp_x0]] at h
            obtain ⟨xs, x1, ⟨r, r1, r2⟩, x3, x4⟩ := ih (k + 1) (dn ++ [.inl a]) L ys R h (by simp; omega) (by omega) (sp_tyx_snoc (x := .inl a) hx ⟨by rw [hd]; exact h9, ha.1, ha.2⟩) hz
            exact ⟨xs, x1, ⟨.inl a :: r, by rw [r1]; simp, by rw [r2]; simp [sp_pc]⟩, x3, x4⟩
          · rw [if_neg ha] at h; cases h
      · have hk3 : k < 3 := by omega
        have hp := hwc.2.1 k hk3
        have ht4 := hw.2.2.1
        have hp4 : sp_par q k < 4 := by omega
        rw [sp_lka_t (by omega)] at h
        cases hFp : F (sp_par q k) L with
        | none => rw [hFp] at h; cases h
        | some p =>
          rw [hFp] at h
          have h : sp_lka F g q j (k + 1) (dn.map sp_x0 ++ [.inr (0, p.1)]) p.2 = some (ys, R) := h
          have hsz := sp_lka_size _ _ _ _ _ _ h
          rw [sp_size_app] at hsz
          have hsz2 : sp_size [.inr (0, p.1)] = p.1.1 := by show p.1.1 + 0 = _; omega
          obtain ⟨w, e, w1, w2, w3, w4⟩ := hF _ _ _ hFp (by omega)
          rw [show dn.map sp_x0 ++ [.inr (0, p.1)] = (dn ++ [(.inr (sp_att w e) : sp_X)]).map sp_x0 by rw [w4]; simp [sp_x0, sp_att, sp_sz]] at h
          obtain ⟨xs, x1, ⟨r, r1, r2⟩, x3, x4⟩ := ih (k + 1) (dn ++ [.inr (sp_att w e)]) p.2 ys R h (by simp; omega) (by omega) (sp_tyx_snoc (x := .inr (sp_att w e)) hx ⟨by rw [hd]; exact hp4, e, w1, by rw [hd]; exact w2, rfl⟩) hz
          refine ⟨xs, x1, ⟨.inr (sp_att w e) :: r, by rw [r1]; simp, ?_⟩, x3, x4⟩
          rw [w3, r2]
          show _ = (sp_pc T (.inr (sp_att w e)) :: r.map (sp_pc T)).flatten ++ R
          rw [List.flatten_cons, List.append_assoc]; rfl
theorem lk_cp {g : sp_G} (hw : sp_wg g) : ∀ (n t : Nat) (L : List Nat) (p : sp_P), sp_look g n t L = some p → p.1.1 ≤ (sp_tab g).2 → ∃ w e, (sp_tab g).1[w]? = some e ∧ e.1 = t ∧ L = sp_cd (sp_tab g).1 w ++ p.2 ∧ p.1 = (sp_sz e, 1 + sp_max (sp_hts e.2.2), sp_ints e.2.2) := by
  intro n
  induction n with
  | zero => intro t L p h; cases h
  | succ n ih =>
    intro t L p h hz
    cases L with
    | nil => cases h
    | cons a L =>
      unfold sp_look at h
      by_cases ha : 100 ≤ a
      · rw [if_pos ha] at h
        cases hq : g.2.2.2[a - 100]? with
        | none => rw [hq] at h; cases h
        | some q =>
          rw [hq] at h
          have h : (if q.1 = t then sp_node q (sp_lka (sp_look g n) g q 3 0 [] L) else none) = some p := h
          by_cases ht : q.1 = t
          · rw [if_pos ht] at h
            cases hk : sp_lka (sp_look g n) g q 3 0 [] L with
            | none => rw [hk] at h; cases h
            | some yr =>
              obtain ⟨ys, R⟩ := yr
              rw [hk] at h
              have h : (if sp_cond q.2.2.2.2 ys then some ((1 + sp_size ys, 1 + sp_max (sp_hts ys), sp_ints ys), R) else none) = some p := h
              by_cases hc : sp_cond q.2.2.2.2 ys = true
              · rw [if_pos hc] at h
                cases h
                have hz : 1 + sp_size ys ≤ (sp_tab g).2 := hz
                obtain ⟨xs, x1, ⟨r, r1, r2⟩, x3, x4⟩ := lka_cp hw (hw.2.2.2.2 q (List.mem_of_getElem? hq)) (H := (sp_tab g).2) ih 3 0 [] L ys R hk rfl rfl (fun j x z => by simp at z) (by omega)
                have hxr : xs = r := r1
                subst hxr
                have hm := tb_mem hw hq x4 x3 (by rw [← sp_x0_cond, ← x1]; exact hc) (by rw [← sp_x0_size, ← x1]; exact hz)
                obtain ⟨w, hwm⟩ := List.getElem?_of_mem hm
                refine ⟨w, _, hwm, ht, ?_, ?_⟩
                · rw [sp_cd_eq (tb_ok hw).1 hwm]
                  show a :: L = (100 + (a - 100)) :: (xs.map (sp_pc (sp_tab g).1)).flatten ++ R
                  rw [show 100 + (a - 100) = a by omega, r2]; rfl
                · show (1 + sp_size ys, 1 + sp_max (sp_hts ys), sp_ints ys) = (1 + sp_size xs, 1 + sp_max (sp_hts xs), sp_ints xs)
                  rw [x1, sp_x0_size, sp_x0_hts, sp_x0_ints]
              · rw [if_neg hc] at h; cases h
          · rw [if_neg ht] at h; cases h
      · rw [if_neg ha] at h; cases h
theorem tb_cp {g : sp_G} (hw : sp_wg g) : sp_cp g (sp_tab g).1 (sp_tab g).2 := by
  intro t L p h h2 hz
  obtain ⟨w, e, w1, w2, w3, -⟩ := lk_cp hw 41 t L p h hz
  rw [h2, List.append_nil] at w3
  have hwl := (List.getElem?_eq_some_iff.mp w1).1
  have htp : sp_tp (sp_tab g).1 w = t := by unfold sp_tp; rw [w1]; exact w2
  cases hf : (sp_of (sp_tab g).1 t).find? (fun x => decide (sp_cd (sp_tab g).1 x = L)) with
  | some x => exact ⟨x, rfl⟩
  | none =>
    have := List.find?_eq_none.mp hf w (by rw [← htp]; exact List.mem_of_getElem? (sp_rk_in hwl))
    rw [← w3] at this
    simp at this
