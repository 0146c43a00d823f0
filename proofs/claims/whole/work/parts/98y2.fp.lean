/-! ===== the room: families of the kinds of values ===== -/
theorem tyg_lo {g : sp_G} (hg : sp_wg g) : ∀ {ys : List sp_X} {par : Nat → Nat}, tyg g par ys → ∀ a ∈ sp_ints ys, g.1 ≤ a := by
  intro ys
  induction ys with
  | nil => intro par _ a ha; cases ha
  | cons y r ih =>
    intro par h a ha
    cases y with
    | inl m =>
      rcases List.mem_cons.mp ha with z | z
      · rw [z]; exact (tyg_l h).2.1
      · exact ih (tyg_tl h) a z
    | inr p =>
      obtain ⟨-, e', t2, -, t4⟩ := tyg_r h
      rcases List.mem_append.mp (show a ∈ p.2.2.2 ++ sp_ints r from ha) with z | z
      · have hl := (List.getElem?_eq_some_iff.mp t2).1
        refine (it_lo hg hl a ?_).1
        rw [xo_eq t2]
        rw [t4] at z
        exact z
      · exact ih (tyg_tl h) a z
/-- one constructor's argument lists with the condition kept -/
theorem fam_in {g : sp_G} (hg : sp_wg g) {v : Nat} {e : sp_E} (he : (sp_tab g).1[v]? = some e) {q : sp_C} (q1 : g.2.2.2[e.2.1]? = some q) (q2 : q.1 = e.1) (q3 : e.2.2.length = sp_ar q) {M : List (List sp_X)} (hn : M.Nodup) (hM : ∀ ys ∈ M, vr g (sp_par q) e.2.2 ys ∧ sp_cond q.2.2.2.2 ys = true) : Fam g v M.length := by
  refine fam_of he hn (fun ys hy => ?_)
  obtain ⟨⟨a, b, c, d, -⟩, h2⟩ := hM ys hy
  have hz : sp_sz e ≤ (sp_tab g).2 := (tb_ok hg).2.2.1 e (List.mem_of_getElem? he)
  have := tb_mem hg q1 (b.trans q3) a h2 (by rw [c]; exact hz)
  rw [q2] at this
  exact ⟨this, c, d⟩
theorem fam_pl {g : sp_G} (hg : sp_wg g) (hw : g.1 + 1 ≤ g.2.1) {v : Nat} (hv : v < (sp_tab g).1.length) {b : Nat → Nat} (h1 : cdn g v ≠ 1) (h5 : ¬ (cdn g v = 5 ∧ own (sp_xo (sp_tab g).1 v) = 0)) (hb : ∀ q ∈ ars (sp_xo (sp_tab g).1 v), Fam g q.1 (b q.1)) : Fam g v (bpr b (ars (sp_xo (sp_tab g).1 v)) * (g.2.1 - g.1 + 1) ^ (own (sp_xo (sp_tab g).1 v) - 1)) := by
  have he : (sp_tab g).1[v]? = some (sp_tab g).1[v] := List.getElem?_eq_getElem hv
  have hc := cdn_h hg hv
  obtain ⟨q, q1, q2, q3, q4, q5⟩ := sp_tab_ty hg _ (List.getElem_mem hv)
  have ec := cdn_eq he q1
  rw [xo_eq he] at hb h5 hc ⊢
  rw [ec] at h1 h5 hc
  generalize (sp_tab g).1[v] = e at he q1 q2 q3 q4 q5 hb h5 hc ⊢
  obtain ⟨M, m1, m2, m3⟩ := vf hg.1 e.2.2 (sp_par q) q4 hb
  by_cases c5 : q.2.2.2.2 = 5
  · have ho : own e.2.2 ≠ 0 := fun z => h5 ⟨c5, z⟩
    refine fam_mono (fam_in hg he q1 q2 q3 (M := M.map (fun ys => if (sp_ints ys).sum % 2 = 0 then ys else setf (g.1 + 1) ys)) (nd_map m1 (fun a ha c hc2 ee => ?_)) (fun ys hy => ?_)) (by rw [List.length_map]; exact m2)
    · have fa := (m3 a ha).2 ho
      have fc := (m3 c hc2).2 ho
      have key : ∀ x, sp_fst x = some g.1 → setf g.1 (if (sp_ints x).sum % 2 = 0 then x else setf (g.1 + 1) x) = x := fun x hx => by
        obtain ⟨z1, z2, -⟩ := setf_back (g.1 + 1) hx
        split
        · exact z2
        · exact z1
      rw [← key a fa, ← key c fc, ee]
    · obtain ⟨x, hx, rfl⟩ := List.mem_map.mp hy
      obtain ⟨x1, x2⟩ := m3 x hx
      have z := (setf_back (g.1 + 1) (x2 ho)).2.2
      rw [c5]
      split
      · next hp => exact ⟨x1, decide_eq_true hp⟩
      · next hp =>
        refine ⟨setf_vr (by omega) hw x1, decide_eq_true ?_⟩
        omega
  · refine fam_mono (fam_in hg he q1 q2 q3 m1 (fun ys hy => ⟨(m3 ys hy).1, ?_⟩)) m2
    obtain ⟨⟨a, b', c, d, o⟩, h2⟩ := m3 ys hy
    have hk := (hg.2.2.2.2 q (List.mem_of_getElem? q1)).2.2.2.2.2
    rcases (show q.2.2.2.2 = 0 ∨ q.2.2.2.2 = 2 ∨ q.2.2.2.2 = 3 ∨ q.2.2.2.2 = 4 by omega) with z | z | z | z
    · rw [z]; rfl
    · rw [z]
      show (match sp_fst ys with
        | none => true
        | some n => decide (n ≤ sp_min (sp_ints ys))) = true
      by_cases ho : own e.2.2 = 0
      · rw [fst_own (o.trans ho)]
      · rw [h2 ho]
        exact decide_eq_true (min_ge (fst_ne (h2 ho)) (tyg_lo hg a))
    · rw [z] at hc ⊢
      show decide (sp_max (sp_hts ys) = sp_min (sp_hts ys)) = true
      rw [d]; exact hc
    · rw [z] at hc ⊢
      show decide (sp_max (sp_hts ys) ≤ sp_min (sp_hts ys) + 1) = true
      rw [d]; exact hc
/-- EVEN above two values -/
theorem fam_ev {g : sp_G} (hg : sp_wg g) {v : Nat} (hv : v < (sp_tab g).1.length) {p1 p2 : Nat × Nat × Nat × List Nat} (hx : sp_xo (sp_tab g).1 v = [.inr p1, .inr p2]) (h5 : cdn g v = 5) {B1 B2 : Nat} (hb1 : Fam g p1.1 B1) (hb2 : Fam g p2.1 B2) : Fam g v (min B1 B2) := by
  have he : (sp_tab g).1[v]? = some (sp_tab g).1[v] := List.getElem?_eq_getElem hv
  have hc := cdn_h hg hv
  obtain ⟨q, q1, q2, q3, q4, q5⟩ := sp_tab_ty hg _ (List.getElem_mem hv)
  have ec := cdn_eq he q1
  rw [h5, hx] at hc
  rw [h5] at ec
  rw [xo_eq he] at hx
  generalize (sp_tab g).1[v] = e at he q1 q2 q3 q4 q5 hx
  have hsum : (p1.2.2.2.sum + p2.2.2.2.sum) % 2 = 0 := by
    have := of_decide_eq_true (show decide ((sp_ints [.inr p1, .inr p2]).sum % 2 = 0) = true from hc)
    have e2 : (sp_ints [.inr p1, .inr p2]).sum = p1.2.2.2.sum + p2.2.2.2.sum := by
      show (p1.2.2.2 ++ (p2.2.2.2 ++ [])).sum = _
      rw [List.append_nil, List.sum_append]
    rwa [e2] at this
  have q4 : tyg g (sp_par q) e.2.2 := q4
  rw [hx] at q4
  obtain ⟨s1, e1, s2, s3, s4⟩ := tyg_r q4
  obtain ⟨t1, e2, t2, t3, t4⟩ := tyg_r (tyg_tl q4)
  obtain ⟨L1, a1, a2, a3⟩ := hb1
  obtain ⟨L2, b1, b2, b3⟩ := hb2
  have hnil : vr g (fun j => sp_par q (j + 1 + 1)) [] [] := ⟨tyg_nil, rfl, rfl, rfl, rfl⟩
  have fin : ∀ x y, vr g (sp_par q) [.inr p1, .inr p2] [.inr x, .inr y] → (x.2.2.2.sum + y.2.2.2.sum) % 2 = 0 → vr g (sp_par q) e.2.2 [.inr x, .inr y] ∧ sp_cond q.2.2.2.2 [.inr x, .inr y] = true := fun x y h1 h2 => by
    rw [hx, ← ec]
    refine ⟨h1, decide_eq_true ?_⟩
    show (x.2.2.2 ++ (y.2.2.2 ++ [])).sum % 2 = 0
    rw [List.append_nil, List.sum_append]
    exact h2
  by_cases hall : ∀ u ∈ L1, (ag g u).2.2.2.sum % 2 = p1.2.2.2.sum % 2
  · refine fam_mono (fam_in hg he q1 q2 q3 (M := L1.map (fun u => [.inr (ag g u), .inr p2])) (nd_map a1 (fun x _ y _ ee => ?_)) (fun ys hy => ?_)) (by rw [List.length_map]; omega)
    · have := congrArg Prod.fst (Sum.inr.inj (List.cons.inj ee).1)
      rwa [ag_1, ag_1] at this
    · obtain ⟨u, hu, rfl⟩ := List.mem_map.mp hy
      obtain ⟨k1, k2, k3⟩ := ag_sib s1 s2 s3 s4 (a2 u hu)
      have := hall u hu
      exact fin _ _ (vr_r k1 k2 k3 (vr_r ⟨t1, e2, t2, t3, t4⟩ rfl rfl hnil)) (by omega)
  · have : ∃ u ∈ L1, (ag g u).2.2.2.sum % 2 ≠ p1.2.2.2.sum % 2 := by
      refine Classical.byContradiction (fun z => hall (fun u hu => Classical.byContradiction (fun z2 => z ⟨u, hu, z2⟩)))
    obtain ⟨u0, hu0, hne⟩ := this
    refine fam_mono (fam_in hg he q1 q2 q3 (M := L2.map (fun u => [.inr (if (ag g u).2.2.2.sum % 2 = p2.2.2.2.sum % 2 then p1 else ag g u0), .inr (ag g u)])) (nd_map b1 (fun x _ y _ ee => ?_)) (fun ys hy => ?_)) (by rw [List.length_map]; omega)
    · have := congrArg Prod.fst (Sum.inr.inj (List.cons.inj (List.cons.inj ee).2).1)
      rwa [ag_1, ag_1] at this
    · obtain ⟨u, hu, rfl⟩ := List.mem_map.mp hy
      obtain ⟨k1, k2, k3⟩ := ag_sib t1 t2 t3 t4 (b2 u hu)
      obtain ⟨l1, l2, l3⟩ := ag_sib s1 s2 s3 s4 (a2 u0 hu0)
      split
      · next hp => exact fin _ _ (vr_r ⟨s1, e1, s2, s3, s4⟩ rfl rfl (vr_r k1 k2 k3 hnil)) (by omega)
      · next hp => exact fin _ _ (vr_r l1 l2 l3 (vr_r k1 k2 k3 hnil)) (by omega)
/-- ascending lists of m ints -/
def alls (w : Nat) : Nat → List (List Nat)
  | 0 => [[]]
  | m + 1 => (List.range (w + 1)).flatMap (fun a => (alls w m).map (fun l => a :: l))
def ascl (w m : Nat) : List (List Nat) := (alls w m).filter sp_asc
theorem alls_ok (w : Nat) : ∀ m, (alls w m).Nodup ∧ ∀ l ∈ alls w m, l.length = m ∧ ∀ a ∈ l, a ≤ w := by
  intro m
  induction m with
  | zero =>
    refine ⟨List.nodup_cons.mpr ⟨List.not_mem_nil, List.nodup_nil⟩, fun l hl => ?_⟩
    have : l = [] := by simpa [alls] using hl
    rw [this]
    exact ⟨rfl, fun a ha => absurd ha List.not_mem_nil⟩
  | succ m ih =>
    refine ⟨(nd_prod (f := fun a => a) ih.1 List.nodup_range (fun a _ b _ e => e)).1, fun l hl => ?_⟩
    obtain ⟨a, ha, hl⟩ := List.mem_flatMap.mp hl
    obtain ⟨l', hl', rfl⟩ := List.mem_map.mp hl
    obtain ⟨i1, i2⟩ := ih.2 l' hl'
    refine ⟨by rw [List.length_cons, i1], fun x hx => ?_⟩
    rcases List.mem_cons.mp hx with z | z
    · have := List.mem_range.mp ha; omega
    · exact i2 x z
theorem asc_sh (lo : Nat) : ∀ l : List Nat, sp_asc (l.map (fun a => lo + a)) = sp_asc l := by
  intro l
  induction l with
  | nil => rfl
  | cons a r ih =>
    cases r with
    | nil => rfl
    | cons c r =>
      show (decide (lo + a < lo + c) && sp_asc ((c :: r).map (fun a => lo + a))) = (decide (a < c) && sp_asc (c :: r))
      rw [ih]
      congr 1
      exact decide_eq_decide.mpr (by omega)
theorem leaf_vr {g : sp_G} : ∀ (xs : List sp_X) (par : Nat → Nat) (l : List Nat), tyg g par xs → ars xs = [] → l.length = xs.length → (∀ a ∈ l, a ≤ g.2.1 - g.1) → g.1 ≤ g.2.1 → vr g par xs (l.map (fun a => .inl (g.1 + a))) ∧ sp_ints (l.map (fun a => (.inl (g.1 + a) : sp_X))) = l.map (fun a => g.1 + a) := by
  intro xs
  induction xs with
  | nil =>
    intro par l _ _ hl _ _
    have : l = [] := List.length_eq_zero_iff.mp hl
    rw [this]
    exact ⟨⟨tyg_nil, rfl, rfl, rfl, rfl⟩, rfl⟩
  | cons x r ih =>
    intro par l ht ha hl hb hlo
    cases l with
    | nil => cases hl
    | cons a l =>
      cases x with
      | inl n =>
        obtain ⟨i1, i2⟩ := ih _ l (tyg_tl ht) ha (Nat.succ.inj hl) (fun x hx => hb x (List.mem_cons_of_mem _ hx)) hlo
        have h1 := hb a List.mem_cons_self
        refine ⟨vr_l ⟨(tyg_l ht).1, by omega, by omega⟩ i1, ?_⟩
        show (g.1 + a) :: sp_ints _ = _
        rw [i2]; rfl
      | inr p => cases ha
/-- ORDER without arguments that are values -/
theorem fam_od {g : sp_G} (hg : sp_wg g) {v : Nat} (hv : v < (sp_tab g).1.length) (ha : ars (sp_xo (sp_tab g).1 v) = []) (h1 : cdn g v = 1) : Fam g v (ascl (g.2.1 - g.1) (sp_xo (sp_tab g).1 v).length).length := by
  have he : (sp_tab g).1[v]? = some (sp_tab g).1[v] := List.getElem?_eq_getElem hv
  obtain ⟨q, q1, q2, q3, q4, q5⟩ := sp_tab_ty hg _ (List.getElem_mem hv)
  have ec := cdn_eq he q1
  rw [h1] at ec
  rw [xo_eq he] at ha ⊢
  generalize (sp_tab g).1[v] = e at he q1 q2 q3 q4 q5 ha
  obtain ⟨m1, m2⟩ := alls_ok (g.2.1 - g.1) e.2.2.length
  refine fam_mono (fam_in hg he q1 q2 q3 (M := (ascl (g.2.1 - g.1) e.2.2.length).map (fun l => l.map (fun a => (.inl (g.1 + a) : sp_X)))) (nd_map (m1.filter _) (fun x _ y _ ee => ?_)) (fun ys hy => ?_)) (by rw [List.length_map]; exact Nat.le_refl _)
  · have inj : ∀ (x y : List Nat), x.map (fun a => (.inl (g.1 + a) : sp_X)) = y.map (fun a => (.inl (g.1 + a) : sp_X)) → x = y := by
      intro x
      induction x with
      | nil => intro y h; exact (List.map_eq_nil_iff.mp h.symm).symm
      | cons a x ih =>
        intro y h
        cases y with
        | nil => cases h
        | cons c y =>
          obtain ⟨k1, k2⟩ := List.cons.inj h
          have k1 := Sum.inl.inj k1
          rw [ih y k2, show a = c by omega]
    exact inj x y ee
  · obtain ⟨l, hl, rfl⟩ := List.mem_map.mp hy
    obtain ⟨f1, f2⟩ := List.mem_filter.mp hl
    obtain ⟨i1, i2⟩ := m2 l f1
    obtain ⟨r1, r2⟩ := leaf_vr e.2.2 (sp_par q) l q4 ha i1 i2 hg.1
    refine ⟨r1, ?_⟩
    rw [← ec]
    show sp_asc (sp_ints _) = true
    rw [r2, asc_sh]
    exact f2
