/-! ===== the room: one int lowered pays, along the value ===== -/
theorem own_app (xs ys : List sp_X) : own (xs ++ ys) = own xs + own ys := List.countP_append
theorem own_inl (n : Nat) (r : List sp_X) : own (.inl n :: r) = own r + 1 := by
  unfold own
  rw [List.countP_cons]; rfl
theorem own_inr (q : Nat × Nat × Nat × List Nat) (r : List sp_X) : own (.inr q :: r) = own r := by
  unfold own
  rw [List.countP_cons]; rfl
theorem ms_app {F : sp_X → Nat} (pre r : List sp_X) (x : sp_X) : ((pre ++ x :: r).map F).sum = (pre.map F).sum + (F x + (r.map F).sum) := by
  rw [List.map_append, List.sum_append, List.map_cons, List.sum_cons]
theorem pot_low {g : sp_G} (hg : sp_wg g) {W : Nat → Nat} {K0 : Nat} (hW2 : ∀ j, K0 ≤ 2 * W j) : ∀ (f i v w : Nat), zs (sp_tab g).1 v ≤ f → v < (sp_tab g).1.length → w < (sp_tab g).1.length → lowd (sp_tab g).1 v w → K0 ≤ W i * (sm (sp_tab g).1 v - sm (sp_tab g).1 w) → pot g W f i w + K0 ≤ pot g W f i v := by
  intro f
  induction f with
  | zero => intro i v w h; unfold zs at h; omega
  | succ f ih =>
    intro i v w hf hv hwl hlow hK
    have he : (sp_tab g).1[v]? = some (sp_tab g).1[v] := List.getElem?_eq_getElem hv
    have hf2 : (sp_tab g).1[w]? = some (sp_tab g).1[w] := List.getElem?_eq_getElem hwl
    obtain ⟨hc, pre, x, y, r, e1, e2, hx⟩ := low_args hg he hf2 hlow
    obtain ⟨z1, z2, z3⟩ := low_z hg hv hwl hlow
    rw [← xo_eq he] at e1
    rw [← xo_eq hf2] at e2
    have hcd : cdn g w = cdn g v := by
      obtain ⟨q, q1, -⟩ := sp_tab_ty hg _ (List.getElem_mem hv)
      rw [cdn_eq he q1]
      rw [hc] at q1
      exact cdn_eq hf2 q1
    have u1 := up_sm hg hv
    have u2 := up_sm hg hwl
    rw [z2] at u2
    have sv : sm (sp_tab g).1 v = (sp_ints pre).sum + (sp_ints (x :: r)).sum := by unfold sm; rw [e1, sp_ints_app, List.sum_append]
    have sw : sm (sp_tab g).1 w = (sp_ints pre).sum + (sp_ints (y :: r)).sum := by unfold sm; rw [e2, sp_ints_app, List.sum_append]
    unfold pot
    rw [hcd]
    by_cases c1 : cdn g v = 1
    · rw [if_pos c1, if_pos c1, z1, z2]
      have ha : sp_asc (sp_ints (sp_xo (sp_tab g).1 w)) = true := by
        have := cdn_h hg hwl
        rw [hcd, c1] at this
        exact this
      have ht := asc_up g.1 _ 0 ha (fun a h => (it_lo hg hwl a h).1)
      have ht2 : nn (sp_tab g).1 v * (nn (sp_tab g).1 v - 1) / 2 ≤ up g w := by
        rw [← z2]
        unfold nn up
        omega
      have eu : up g v = up g w + (sm (sp_tab g).1 v - sm (sp_tab g).1 w) := by omega
      have eu2 : up g v - nn (sp_tab g).1 v * (nn (sp_tab g).1 v - 1) / 2 = (up g w - nn (sp_tab g).1 v * (nn (sp_tab g).1 v - 1) / 2) + (sm (sp_tab g).1 v - sm (sp_tab g).1 w) := by omega
      have m1 : W i * up g v = W i * up g w + W i * (sm (sp_tab g).1 v - sm (sp_tab g).1 w) := by rw [eu, Nat.mul_add]
      have m2 := congrArg (fun z => W i * z) eu2
      simp only [Nat.mul_add] at m2
      rw [m1, m2]
      omega
    · rw [if_neg c1, if_neg c1]
      cases x with
      | inl a =>
        cases y with
        | inr p => exact hx.elim
        | inl b =>
          have hx : b < a := hx
          have sv2 : (sp_ints (.inl a :: r)).sum = a + (sp_ints r).sum := List.sum_cons
          have sw2 : (sp_ints (.inl b :: r)).sum = b + (sp_ints r).sum := List.sum_cons
          have hb := (it_lo hg hwl b (by rw [e2, sp_ints_app]; exact List.mem_append_right _ List.mem_cons_self)).1
          have n1 : ¬ (cdn g v = 5 ∧ own (sp_xo (sp_tab g).1 v) = 0) := fun z => by
            have := z.2
            rw [e1, own_app, own_inl] at this
            omega
          have n2 : ¬ (cdn g v = 5 ∧ own (sp_xo (sp_tab g).1 w) = 0) := fun z => by
            have := z.2
            rw [e2, own_app, own_inl] at this
            omega
          rw [if_neg n1, if_neg n2, e1, e2, ms_app, ms_app]
          have m1 : W i * (a - g.1) = W i * (b - g.1) + W i * (sm (sp_tab g).1 v - sm (sp_tab g).1 w) := by
            rw [← Nat.mul_add]
            congr 1
            omega
          show _ + (W i * (b - g.1) + _) + K0 ≤ _ + (W i * (a - g.1) + _)
          rw [m1]
          omega
      | inr p =>
        cases y with
        | inl b => exact hx.elim
        | inr p' =>
          obtain ⟨-, hx⟩ := hx
          obtain ⟨-, -, b3, b4, b5⟩ := sub_at (tb_ok hg).1 (v := v) (q := p) (by rw [e1]; simp)
          obtain ⟨-, -, d3, d4, d5⟩ := sub_at (tb_ok hg).1 (v := w) (q := p') (by rw [e2]; simp)
          have hz := (in_sz (xs := sp_xo (sp_tab g).1 v) (q := p) (by rw [e1]; simp)).1
          obtain ⟨y1, y2, y3⟩ := low_z hg b3 d3 hx
          have sv2 : (sp_ints (.inr p :: r)).sum = sm (sp_tab g).1 p.1 + (sp_ints r).sum := by
            show (p.2.2.2 ++ sp_ints r).sum = _
            rw [List.sum_append, b5]; rfl
          have sw2 : (sp_ints (.inr p' :: r)).sum = sm (sp_tab g).1 p'.1 + (sp_ints r).sum := by
            show (p'.2.2.2 ++ sp_ints r).sum = _
            rw [List.sum_append, d5]; rfl
          have hd : sm (sp_tab g).1 v - sm (sp_tab g).1 w = sm (sp_tab g).1 p.1 - sm (sp_tab g).1 p'.1 := by omega
          have hzp : zs (sp_tab g).1 p.1 ≤ f := by
            rw [← b4]
            unfold zs at hf
            omega
          have ho : own (sp_xo (sp_tab g).1 w) = own (sp_xo (sp_tab g).1 v) := by rw [e1, e2, own_app, own_app, own_inr, own_inr]
          rw [ho]
          by_cases c2 : cdn g v = 5 ∧ own (sp_xo (sp_tab g).1 v) = 0
          · rw [if_pos c2, if_pos c2, e1, e2, ms_app, ms_app]
            have p1 : sm (sp_tab g).1 v % 2 = 0 := by
              have := cdn_h hg hv
              rw [c2.1] at this
              exact of_decide_eq_true this
            have p2 : sm (sp_tab g).1 w % 2 = 0 := by
              have := cdn_h hg hwl
              rw [hcd, c2.1] at this
              exact of_decide_eq_true this
            have hd2 : 2 ≤ sm (sp_tab g).1 p.1 - sm (sp_tab g).1 p'.1 := by omega
            have hK2 : K0 ≤ W (md i p.2.1) * (sm (sp_tab g).1 p.1 - sm (sp_tab g).1 p'.1) := by
              refine Nat.le_trans (hW2 (md i p.2.1)) ?_
              rw [Nat.mul_comm]
              exact Nat.mul_le_mul_left _ hd2
            have := ih (md i p.2.1) p.1 p'.1 hzp b3 d3 hx hK2
            show _ + (pot g W f (md i p'.2.1) p'.1 + _) + K0 ≤ _ + (pot g W f (md i p.2.1) p.1 + _)
            rw [d4, y1, ← b4]
            omega
          · rw [if_neg c2, if_neg c2, e1, e2, ms_app, ms_app]
            have := ih i p.1 p'.1 hzp b3 d3 hx (by rw [← hd]; exact hK)
            show _ + (pot g W f i p'.1 + _) + K0 ≤ _ + (pot g W f i p.1 + _)
            omega
