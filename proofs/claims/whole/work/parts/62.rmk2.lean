/-! ===== the reference: make, whole ===== -/
def rf_cCq (g : sp_G) (q : sp_C) : Nat := rf_cC g q.2.1 + rf_cC g q.2.2.1 + rf_cC g q.2.2.2.1
def rf_cSq (g : sp_G) (T0 : List sp_E) (q : sp_C) : Nat := rf_cS g T0 q.2.1 + rf_cS g T0 q.2.2.1 + rf_cS g T0 q.2.2.2.1
def rf_lv (g : sp_G) (T : List sp_E) (s : Nat) : List sp_E × Bool := sp_pushes (T, false) (sp_lvl g T s (List.range g.2.2.2.length))
/-- the cells and the slots that a making takes -/
def mk_C (g : sp_G) : Nat → List sp_E → Nat → Nat
  | 0, _, _ => 0
  | j + 1, T, s => 1 + (g.2.2.2.map (rf_cCq g)).sum + ((rf_lv g T s).1.length - T.length) + (if (rf_lv g T s).2 then 0 else mk_C g j (rf_lv g T s).1 (s + 1))
def mk_S (g : sp_G) : Nat → List sp_E → Nat → Nat
  | 0, _, _ => 0
  | j + 1, T, s => 4 + (g.2.2.2.map (rf_cSq g T)).sum + (rf_slots (rf_lv g T s).1 - rf_slots T) + (if (rf_lv g T s).2 then 0 else mk_S g j (rf_lv g T s).1 (s + 1))
def rf_pc (g : sp_G) (T : List sp_E) (s c : Nat) : List sp_E × Bool := sp_pushes (T, false) (sp_lvl g T s (List.range c))
theorem rf_pc_s {g : sp_G} (hw : sp_wg g) {T : List sp_E} (hs : sp_srt T) {s c : Nat} {q : sp_C} (hc : g.2.2.2[c]? = some q) : rf_pc g T s (c + 1) = sp_pushes (rf_pc g T s c) ((rf_cand g T q s).map (fun ys => (q.1, c, ys))) := by
  unfold rf_pc sp_lvl
  rw [List.range_succ, List.flatMap_append, sp_pushes_app, List.flatMap_singleton, hc]
  show sp_pushes _ ((sp_ext T g.1 g.2.1 q 4 [] s).map _) = _
  rw [rf_cand_ext hw hs (List.mem_of_getElem? hc)]
theorem rf_pc_le {g : sp_G} {T : List sp_E} (hT : T.length ≤ 300) {s : Nat} : ∀ (m c : Nat), (rf_pc g T s c).1.length ≤ 300 ∧ (rf_pc g T s c).1 <+: (rf_pc g T s (c + m)).1 ∧ rf_slots (rf_pc g T s c).1 ≤ rf_slots (rf_pc g T s (c + m)).1 ∧ ((rf_pc g T s c).2 = true → rf_pc g T s (c + m) = rf_pc g T s c) := by
  intro m c
  have hl := (rf_pushes_pre (sp_lvl g T s (List.range c)) T false hT).2.1
  have hl : (rf_pc g T s c).1.length ≤ 300 := hl
  have e : rf_pc g T s (c + m) = sp_pushes (rf_pc g T s c) (sp_lvl g T s ((List.range m).map (c + ·))) := by
    unfold rf_pc sp_lvl
    rw [List.range_add, List.flatMap_append, sp_pushes_app]
  have h2 := rf_pushes_pre (sp_lvl g T s ((List.range m).map (c + ·))) (rf_pc g T s c).1 (rf_pc g T s c).2 hl
  have h2e : sp_pushes ((rf_pc g T s c).1, (rf_pc g T s c).2) (sp_lvl g T s ((List.range m).map (c + ·))) = rf_pc g T s (c + m) := e.symm
  rw [h2e] at h2
  refine ⟨hl, h2.1, h2.2.2, fun hb => ?_⟩
  rw [e]
  have h3 := sp_pushes_full (rf_pc g T s c).1 (sp_lvl g T s ((List.range m).map (c + ·)))
  have h4 : (rf_pc g T s c) = ((rf_pc g T s c).1, true) := by rw [← hb]
  rw [h4]; exact h3
/-- what is pushed keeps the table right -/
theorem rf_pushes_ok {g : sp_G} (hw : sp_wg g) {T0 : List sp_E} {s : Nat} (hs7 : s ≤ 7) : ∀ (l T : List sp_E) (b : Bool), sp_wT T → T0 <+: T → (∀ v e, T[v]? = some e → T0.length ≤ v → sp_sz e = s + 1) → (∀ e ∈ l, sp_ent g T0 e ∧ sp_sz e = s + 1) → sp_wT (sp_pushes (T, b) l).1 ∧ T0 <+: (sp_pushes (T, b) l).1 ∧ (∀ v e, (sp_pushes (T, b) l).1[v]? = some e → T0.length ≤ v → sp_sz e = s + 1) := by
  intro l
  induction l with
  | nil => intro T b h1 h2 h3 _; exact ⟨h1, h2, h3⟩
  | cons e l ih =>
    intro T b h1 h2 h3 h4
    cases b with
    | true => rw [sp_pushes_full]; exact ⟨h1, h2, h3⟩
    | false =>
      by_cases hl : T.length = 300
      · rw [sp_pushes_over T e l hl]; exact ⟨h1, h2, h3⟩
      · have hl : T.length < 300 := by have := h1.1; omega
        rw [sp_pushes_cons T e l hl]
        obtain ⟨⟨q, q1, q2, q3, q4, q5⟩, hsz⟩ := h4 e List.mem_cons_self
        have hwc := hw.2.2.2.2 q (List.mem_of_getElem? q1)
        have hq4 : e.1 < 4 := by have := hwc.1; have := hw.2.2.1; omega
        have hxs : sp_xs T0 g.1 g.2.1 e.2.2 := by
          refine ⟨by rw [q3]; exact sp_ar_le q, fun n hn => ?_, fun p hp => ?_⟩
          · obtain ⟨jj, hj⟩ := List.getElem?_of_mem hn
            exact (q4 jj _ hj).2
          · obtain ⟨jj, hj⟩ := List.getElem?_of_mem hp
            obtain ⟨-, e', y1, -, y3⟩ := q4 jj _ hj
            exact ⟨p.1, e', y1, y3⟩
        have hwT' : sp_wT (T ++ [(e.1, e.2.1, e.2.2)]) := sp_wT_snoc h1 h2 hl hxs hw.2.1 hq4 (by unfold sp_sz at hsz; omega)
        refine ih (T ++ [e]) false hwT' (List.IsPrefix.trans h2 (List.prefix_append T _)) (fun v f hf hv => ?_) (fun f hf => h4 f (List.mem_cons_of_mem _ hf))
        by_cases hvl : v < T.length
        · rw [List.getElem?_append_left hvl] at hf
          exact h3 v f hf hv
        · rw [List.getElem?_append_right (by omega)] at hf
          have hv2 := (List.getElem?_eq_some_iff.mp hf).1
          have hv2 : v - T.length < 1 := hv2
          rw [show v - T.length = 0 by omega] at hf
          have hf : e = f := by simpa using hf
          rw [← hf]; exact hsz
theorem rf_pc_ok {g : sp_G} (hw : sp_wg g) {T : List sp_E} (hT : sp_wT T) (hs : sp_srt T) {s : Nat} (hle : sp_le T s) (hs7 : s ≤ 7) (c : Nat) : sp_wT (rf_pc g T s c).1 ∧ T <+: (rf_pc g T s c).1 ∧ (∀ v e, (rf_pc g T s c).1[v]? = some e → T.length ≤ v → sp_sz e = s + 1) ∧ sp_srt (rf_pc g T s c).1 ∧ sp_le (rf_pc g T s c).1 (s + 1) := by
  obtain ⟨a1, a2, a3⟩ := rf_pushes_ok hw hs7 (sp_lvl g T s (List.range c)) T false hT List.prefix_rfl (fun v e he hv => by have := (List.getElem?_eq_some_iff.mp he).1; omega) (fun e he => ⟨sp_lvl_ent hw hs e he, sp_lvl_size hw hs e he⟩)
  have a1 : sp_wT (rf_pc g T s c).1 := a1
  have a2 : T <+: (rf_pc g T s c).1 := a2
  have a3 : ∀ v e, (rf_pc g T s c).1[v]? = some e → T.length ≤ v → sp_sz e = s + 1 := a3
  obtain ⟨N, hN⟩ := id a2
  have hn : ∀ e ∈ N, sp_sz e = s + 1 := fun e he => by
    obtain ⟨i, hi⟩ := List.getElem?_of_mem he
    refine a3 (T.length + i) e ?_ (by omega)
    rw [← hN, List.getElem?_append_right (by omega), show T.length + i - T.length = i by omega]; exact hi
  refine ⟨a1, a2, a3, ?_, ?_⟩
  · rw [← hN]; exact sp_srt_app hs hle hn
  · rw [← hN]
    intro e he
    rcases List.mem_append.mp he with z | z
    · have := hle e z; omega
    · rw [hn e z]; exact Nat.le_refl _
theorem rf_mk_s (g : sp_G) (j : Nat) (T : List sp_E) (s : Nat) : sp_mk g (j + 1) T s = if (rf_lv g T s).2 then (T, s) else sp_mk g j (rf_lv g T s).1 (s + 1) := rfl
theorem rf_lv_ty {g : sp_G} (hw : sp_wg g) {T : List sp_E} (hT : sp_wT T) (hs : sp_srt T) {s : Nat} (hle : sp_le T s) (hty : sp_ty g T) (hr : (rf_lv g T s).2 = false) : sp_ty g (rf_lv g T s).1 := by
  have := sp_mk_ty hw 1 s T hs hle hty
  rw [rf_mk_s, hr] at this
  exact this
/-- what a making leaves as it was -/
def rw_fm (R R' : rw_S) : Prop := (∀ i, i ≠ 12 → i ≠ 13 → i ≠ 14 → i ≠ 20 → i ≠ 21 → R'.1 i = R.1 i) ∧ (∀ i, i < 6 ∨ i = 11 → R'.2.1 i = R.2.1 i)
theorem rw_fm_rfl (R : rw_S) : rw_fm R R := ⟨fun _ _ _ _ _ _ => rfl, fun _ _ => rfl⟩
theorem rw_fm_tr {R1 R2 R3 : rw_S} (a : rw_fm R1 R2) (b : rw_fm R2 R3) : rw_fm R1 R3 := ⟨fun i v w x y z => (b.1 i v w x y z).trans (a.1 i v w x y z), fun i x => (b.2 i x).trans (a.2 i x)⟩
theorem rw_fm_of {R R' : rw_S} (a : rw_fr R R') : rw_fm R R' := ⟨fun i _ _ x y z => a.1 i x y z, a.2⟩
theorem rw_fm_g {R R' : rw_S} {g : sp_G} (h : rw_fm R R') (hg : rw_gr R g) : rw_gr R' g := by
  refine ⟨(h.1 1 (by decide) (by decide) (by decide) (by decide) (by decide)).trans hg.1, (h.1 2 (by decide) (by decide) (by decide) (by decide) (by decide)).trans hg.2.1, (h.1 3 (by decide) (by decide) (by decide) (by decide) (by decide)).trans hg.2.2.1, (h.1 4 (by decide) (by decide) (by decide) (by decide) (by decide)).trans hg.2.2.2.1, ?_⟩
  rw [h.2 1 (by decide), h.2 2 (by decide), h.2 3 (by decide)]
  exact hg.2.2.2.2
section RMK2
variable {G : ax_G} {A : rw_Ad}

theorem mk_con (hA : rw_nd A) {g : sp_G} (hw : sp_wg g) {T0 : List sp_E} (hs0 : sp_srt T0) (hw0 : sp_wT T0) (hty : sp_ty g T0) {s : Nat} (hs7 : s ≤ 7) (hle : sp_le T0 s) {R0 : rw_S} (hg0 : rw_gr R0 g) (h13 : R0.1 13 = nI s) {h0 : ax_H} {mc ms q n xc xs : Nat} (d : Nat) (hd : 43 ≤ d) {Q : ax_P} (k0 : ∀ R' h' c' cn' sn', cn' ≤ mc → sn' ≤ ms → rw_T A R' h' (rf_pc g T0 s g.2.2.2.length).1 → hx_le h0 h' → rw_fr R0 R' → (rf_pc g T0 s g.2.2.2.length).2 = true → AW G mX7_make (d + 1) mc ms Q 124 [(0, .ref (A.1 0)), (1, .int 0), (2, .ref q), (3, .int (nI n)), (4, .int (nI c'))] [] (rw_O A R' h') cn' sn') (k1 : ∀ R' h' cn' sn', cn' ≤ mc + 0 → sn' ≤ ms + 0 → rw_T A R' h' (rf_pc g T0 s g.2.2.2.length).1 → hx_le h0 h' → rw_fr R0 R' → (rf_pc g T0 s g.2.2.2.length).2 = false → cn' + xc ≤ mc → sn' + xs ≤ ms → AW G mX7_make (d + 1) mc ms Q 124 [(0, .ref (A.1 0)), (1, .int 1), (2, .ref q), (3, .int (nI n)), (4, .int (nI g.2.2.2.length))] [] (rw_O A R' h') cn' sn') : ∀ (m c : Nat) (R : rw_S) (h : ax_H) (cn sn : Nat), c + m = g.2.2.2.length → rw_T A R h (rf_pc g T0 s c).1 → (rf_pc g T0 s c).2 = false → hx_le h0 h → rw_fr R0 R → cn + ((g.2.2.2.drop c).map (rf_cCq g)).sum + ((rf_pc g T0 s g.2.2.2.length).1.length - (rf_pc g T0 s c).1.length) + xc ≤ mc → sn + ((g.2.2.2.drop c).map (rf_cSq g T0)).sum + (rf_slots (rf_pc g T0 s g.2.2.2.length).1 - rf_slots (rf_pc g T0 s c).1) + xs ≤ ms → AW G mX7_make (d + 1) mc ms Q 92 [(0, .ref (A.1 0)), (1, .int 1), (2, .ref q), (3, .int (nI n)), (4, .int (nI c))] [] (rw_O A R h) cn sn := by
  have hl6 := hw.2.2.2.1
  intro m
  induction m with
  | zero =>
    intro c R h cn sn hc hT h2 hl hfr hcn hsn
    have hc : c = g.2.2.2.length := by omega
    subst hc
    have hg := rw_fr_g hfr hg0
    exact mk_w1 hA d mc ms R h (by omega) (by omega) hg.2.2.2.1 hl6 (k1 R h cn sn (by omega) (by omega) hT hl hfr h2 (by omega) (by omega))
  | succ m ih =>
    intro c R h cn sn hc hT h2 hl hfr hcn hsn
    have hcl : c < g.2.2.2.length := by omega
    have hcq : g.2.2.2[c]? = some g.2.2.2[c] := List.getElem?_eq_getElem hcl
    have hg := rw_fr_g hfr hg0
    obtain ⟨o1, o2, o3, o4, -⟩ := rf_pc_ok hw hw0 hs0 hle hs7 c
    obtain ⟨l1, l2, l3, l4⟩ := rf_pc_le (g := g) (T := T0) hw0.1 (s := s) 1 c
    obtain ⟨u1, u2, u3, u4⟩ := rf_pc_le (g := g) (T := T0) hw0.1 (s := s) m (c + 1)
    have hcm : c + 1 + m = g.2.2.2.length := by omega
    rw [hcm] at u2 u3 u4
    have l2 := l2.length_le
    have u2 := u2.length_le
    have hps : sp_pushes ((rf_pc g T0 s c).1, false) ((rf_cand g T0 g.2.2.2[c] s).map (fun ys => ((g.2.2.2[c]).1, c, ys))) = rf_pc g T0 s (c + 1) := by
      rw [rf_pc_s hw hs0 hcq]
      have : rf_pc g T0 s c = ((rf_pc g T0 s c).1, false) := by rw [← h2]
      rw [← this]
    rw [List.drop_eq_getElem_cons hcl, List.map_cons, List.sum_cons] at hcn hsn
    obtain ⟨d, rfl⟩ : ∃ k, d = k + 1 := ⟨d - 1, by omega⟩
    have h13' : R.1 13 = nI s := (hfr.1 13 (by decide) (by decide) (by decide)).trans h13
    refine mk_wr hA (d + 1) mc ms R h (by omega) (by omega) (s := s) (mc' := rf_cCq g g.2.2.2[c] + ((rf_pc g T0 s (c + 1)).1.length - (rf_pc g T0 s c).1.length)) (ms' := rf_cSq g T0 g.2.2.2[c] + (rf_slots (rf_pc g T0 s (c + 1)).1 - rf_slots (rf_pc g T0 s c).1)) (P0 := fun R' h' => rw_T A R' h' (rf_pc g T0 s (c + 1)).1 ∧ hx_le h h' ∧ rw_fr R R' ∧ (rf_pc g T0 s (c + 1)).2 = true) (P1 := fun R' h' => rw_T A R' h' (rf_pc g T0 s (c + 1)).1 ∧ hx_le h h' ∧ rw_fr R R' ∧ (rf_pc g T0 s (c + 1)).2 = false) hg.2.2.2.1 hl6 hcl h13' (by omega) (by omega) ?_ (fun R' h' z => ?_) (fun R' h' z => ?_)
    · exact r_write hA hw hs0 hw0 hty hcq hs7 hle R hg h hT o1 o4 o2 o3 hps d (by omega) (fun R' h' z1 z2 z3 z4 => ⟨R', h', rfl, Or.inl ⟨rfl, z1, z2, z3, z4⟩⟩) (fun R' h' z1 z2 z3 z4 => ⟨R', h', rfl, Or.inr ⟨rfl, z1, z2, z3, z4⟩⟩)
    · obtain ⟨z1, z2, z3, z4⟩ := z
      have hfr' := rw_fr_tr hfr z3
      have hg' := rw_fr_g hfr' hg0
      have he := u4 z4
      refine mk_w0 hA (d + 1) mc ms R' h' (by omega) (by omega) hg'.2.2.2.1 hl6 (by omega) (k0 R' h' (c + 1) _ _ (by omega) (by omega) (by rw [he]; exact z1) (hx_tr hl z2) hfr' (by rw [he]; exact z4))
    · obtain ⟨z1, z2, z3, z4⟩ := z
      exact ih (c + 1) R' h' _ _ (by omega) z1 z4 (hx_tr hl z2) (rw_fr_tr hfr z3) (by omega) (by omega)

theorem rw_T_back {R R1 : rw_S} {h : ax_H} {T0 T : List sp_E} (hT : rw_T A R h T) (hp : T0 <+: T) (h14 : R1.1 14 = nI T0.length) (h22 : R1.2.2 = R.2.2) (h21 : ∀ i, i ≠ 8 → R1.2.1 i = R.2.1 i) (h8 : ∀ t, t < 4 → R1.2.1 8 t = nI (sp_cnt T0 t)) : rw_T A R1 h T0 := by
  refine ⟨h14, h8, fun v e he => ?_⟩
  have hvl := (List.getElem?_eq_some_iff.mp he).1
  obtain ⟨N, rfl⟩ := id hp
  have he2 : (T0 ++ N)[v]? = some e := by rw [List.getElem?_append_left hvl]; exact he
  have := hT.2.2 v e he2
  rw [sp_cd_pre hp hvl, List.take_append_of_le_length (by omega)] at this
  rw [h22, h21 6 (by decide), h21 7 (by decide), h21 9 (by decide)]
  exact this
theorem mk_loop (hA : rw_nd A) {g : sp_G} (hw : sp_wg g) {mc ms : Nat} (d : Nat) (hd : 43 ≤ d) {Q : ax_P} : ∀ (j s : Nat) (T : List sp_E) (R : rw_S) (h : ax_H) (cn sn : Nat), s + j = 8 → rw_gr R g → rw_T A R h T → sp_wT T → sp_srt T → sp_le T s → sp_ty g T → R.1 13 = nI s → R.1 12 = 1 → cn + mk_C g j T s ≤ mc → sn + mk_S g j T s ≤ ms → (∀ R' h', rw_T A R' h' (sp_mk g j T s).1 → R'.1 13 = nI (sp_mk g j T s).2 → R'.1 12 = 1 → rw_fm R R' → hx_le h h' → Q (.inl none) (rw_O A R' h')) → AW G mX7_make (d + 1) mc ms Q 45 [(0, .ref (A.1 0)), (1, .int 1)] [] (rw_O A R h) cn sn := by
  intro j
  induction j with
  | zero =>
    intro s T R h cn sn hs hg hT hwT hsT hle hty h13 h12 hcn hsn hQ
    have hs : s = 8 := by omega
    subst hs
    exact mk_e8 hA d mc ms R h (by omega) (by omega) h13 (hQ R h hT h13 h12 (rw_fm_rfl R) (hx_rfl h))
  | succ j ih =>
    intro s T R h cn sn hs hg hT hwT hsT hle hty h13 h12 hcn hsn hQ
    have eC : mk_C g (j + 1) T s = 1 + (g.2.2.2.map (rf_cCq g)).sum + ((rf_lv g T s).1.length - T.length) + (if (rf_lv g T s).2 then 0 else mk_C g j (rf_lv g T s).1 (s + 1)) := rfl
    have eS : mk_S g (j + 1) T s = 4 + (g.2.2.2.map (rf_cSq g T)).sum + (rf_slots (rf_lv g T s).1 - rf_slots T) + (if (rf_lv g T s).2 then 0 else mk_S g j (rf_lv g T s).1 (s + 1)) := rfl
    rw [eC] at hcn
    rw [eS] at hsn
    rw [rf_mk_s] at hQ
    have hlv : rf_pc g T s g.2.2.2.length = rf_lv g T s := rfl
    refine mk_lvl hA d mc ms R h (by omega) (by omega) h13 (by omega) hT.1 (by omega) (by omega) (fun q h2 f l2 hat hf => ?_)
    refine mk_con hA hw hsT hwT hty (by omega) hle hg h13 (h0 := h2) d hd (xc := if (rf_lv g T s).2 then 0 else mk_C g j (rf_lv g T s).1 (s + 1)) (xs := if (rf_lv g T s).2 then 0 else mk_S g j (rf_lv g T s).1 (s + 1)) (fun R' h' c' cn' sn' b1 b2 z1 z2 z3 z4 => ?_) (fun R' h' cn' sn' b1 b2 z1 z2 z3 z4 y1 y2 => ?_) g.2.2.2.length 0 R h2 _ _ (by omega) (rw_T_le l2 hT) rfl (hx_rfl _) (rw_fr_rfl R) ?_ ?_
    · rw [hlv] at z1 z4
      rw [z4] at hQ
      obtain ⟨-, o2, -⟩ := rf_pc_ok hw hwT hsT hle (by omega) g.2.2.2.length
      rw [hlv] at o2
      refine mk_dn hA d mc ms R' h' b1 b2 (rw_at_le z2 hat) (fun R1 p1 p2 p3 p4 => ?_)
      refine mk_e0 hA d mc ms R1 h' b1 b2 (hQ R1 h' (rw_T_back (T0 := T) z1 o2 (by rw [p1, pk_us]) p2 p3 (fun t ht => by rw [p4 t ht, hf t ht]; exact hT.2.1 t ht)) ?_ ?_ ?_ (hx_tr l2 z2))
      · rw [p1, pk_un (by decide), z3.1 13 (by decide) (by decide) (by decide)]; exact h13
      · rw [p1, pk_un (by decide), z3.1 12 (by decide) (by decide) (by decide)]; exact h12
      · exact rw_fm_tr (rw_fm_of z3) ⟨fun i _ _ x _ _ => by rw [p1, pk_un x], fun i hi => p3 i (by omega)⟩
    · rw [hlv] at z1 z4
      rw [z4] at hQ y1 y2
      obtain ⟨o1, o2, o3, o4, o5⟩ := rf_pc_ok hw hwT hsT hle (by omega) g.2.2.2.length
      rw [hlv] at o1 o2 o3 o4 o5
      have h13' : R'.1 13 = nI s := (z3.1 13 (by decide) (by decide) (by decide)).trans h13
      have hfm : rw_fm R (rw_setS R' 13 (nI (s + 1))) := rw_fm_tr (rw_fm_of z3) ⟨fun i _ x _ _ _ => pk_un x, fun _ _ => rfl⟩
      refine mk_up hA d mc ms R' h' (by omega) (by omega) h13' ?_
      refine ih (s + 1) (rf_lv g T s).1 (rw_setS R' 13 (nI (s + 1))) h' _ _ (by omega) (rw_fm_g hfm hg) ⟨z1.1, z1.2.1, z1.2.2⟩ o1 o4 o5 (rf_lv_ty hw hwT hsT hle hty z4) rfl ?_ y1 y2 (fun R2 h3 w1 w2 w3 w4 w5 => hQ R2 h3 w1 w2 w3 (rw_fm_tr hfm w4) (hx_tr l2 (hx_tr z2 w5)))
      show upd R'.1 13 (nI (s + 1)) 12 = 1
      rw [pk_un (by decide), z3.1 12 (by decide) (by decide) (by decide)]; exact h12
    · rw [List.drop_zero, hlv]
      have : (rf_pc g T s 0).1.length = T.length := rfl
      omega
    · rw [List.drop_zero, hlv]
      have : rf_slots (rf_pc g T s 0).1 = rf_slots T := rfl
      omega
theorem r_make0 (hA : rw_nd A) {g : sp_G} (hw : sp_wg g) (d : Nat) (hd : 43 ≤ d) (R : rw_S) (h : ax_H) (hg : rw_gr R g) (h12 : R.1 12 = 0) {Q : ax_P} (hQ : ∀ R' h', rw_T A R' h' (sp_tab g).1 → R'.1 13 = nI (sp_tab g).2 → R'.1 12 = 1 → rw_fm R R' → hx_le h h' → Q (.inl none) (rw_O A R' h')) : AW G mX7_make (d + 1) (mk_C g 8 [] 0) (mk_S g 8 [] 0) Q 0 [(0, .ref (A.1 0))] [] (rw_O A R h) 0 0 := by
  refine mk_beg hA d _ _ R h (Nat.zero_le _) (Nat.zero_le _) h12 (fun R1 p1 p2 p3 p4 => ?_)
  have hfm : rw_fm R R1 := ⟨fun i x12 x13 x14 _ _ => by rw [p1, pk_un x14, pk_un x13, pk_un x12], fun i hi => p2 i (by omega)⟩
  refine mk_loop hA hw d hd 8 0 [] R1 h 0 0 rfl (rw_fm_g hfm hg) ⟨by rw [p1, pk_us]; rfl, fun t ht => p4 t ht, fun v e he => by simp at he⟩ ⟨by simp, fun v e he => by simp at he⟩ (fun v w e f _ z => by simp at z) (fun e z => absurd z List.not_mem_nil) (fun e z => absurd z List.not_mem_nil) (by rw [p1, pk_un (by decide), pk_us]; rfl) (by rw [p1, pk_un (by decide), pk_un (by decide), pk_us]) (by omega) (by omega) (fun R' h' z1 z2 z3 z4 z5 => hQ R' h' z1 z2 z3 (rw_fm_tr hfm z4) z5)
theorem r_make1 (hA : rw_nd A) (d : Nat) (R : rw_S) (h : ax_H) (h12 : R.1 12 = 1) {mc ms : Nat} {Q : ax_P} (hQ : Q (.inl none) (rw_O A R h)) : AW G mX7_make (d + 1) mc ms Q 0 [(0, .ref (A.1 0))] [] (rw_O A R h) 0 0 := mk_ret hA d mc ms R h (Nat.zero_le _) (Nat.zero_le _) h12 hQ
end RMK2
