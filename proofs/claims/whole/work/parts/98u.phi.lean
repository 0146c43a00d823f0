/-! ===== the room: a part pays; the dearest way down is bounded ===== -/
def Wt (k0 : Nat) (i : Nat) : Nat := if i = 1 then min k0 (max ((k0 + 1) / 2) 210) else if i = 2 then min k0 (max ((k0 + 1) / 2) 299) else k0
theorem Wt_le (k0 i : Nat) : Wt k0 i ≤ k0 := by unfold Wt; split <;> (try split) <;> omega
theorem Wt_2 (k0 i : Nat) : k0 ≤ 2 * Wt k0 i := by unfold Wt; split <;> (try split) <;> omega
theorem Wt_mono {a b : Nat} (h : a ≤ b) (i : Nat) : Wt a i ≤ Wt b i := by unfold Wt; split <;> (try split) <;> omega
theorem Wt_1 {a b : Nat} (h : a ≤ b) (h2 : a ≤ 210) : a ≤ Wt b 1 := by unfold Wt; rw [if_pos rfl]; omega
theorem Wt_22 {a b : Nat} (h : a ≤ b) (h2 : a ≤ 299) : a ≤ Wt b 2 := by unfold Wt; rw [if_neg (by decide), if_pos rfl]; omega
theorem md_02 (s : Nat) : md 0 s = md 2 s ∨ (md 0 s = 0 ∧ md 2 s = 2) := by
  unfold md
  by_cases h : s ≤ 5
  · simp [h]
  · by_cases h2 : s = 6
    · simp [h2]
    · simp [h, h2]
def kv (g : sp_G) (v : Nat) : Nat := kap (zs (sp_tab g).1 v) (nn (sp_tab g).1 v)
theorem mem_sum {α : Type} {l : List α} {F : α → Nat} {x : α} (h : x ∈ l) : F x ≤ (l.map F).sum := by
  induction l with
  | nil => cases h
  | cons a l ih =>
    rw [List.map_cons, List.sum_cons]
    rcases List.mem_cons.mp h with z | z
    · rw [z]; omega
    · have := ih z; omega
theorem pot_fuel {g : sp_G} (hg : sp_wg g) {W : Nat → Nat} : ∀ (f i v : Nat), zs (sp_tab g).1 v ≤ f → pot g W (f + 1) i v = pot g W f i v := by
  intro f
  induction f with
  | zero => intro i v h; unfold zs at h; omega
  | succ f ih =>
    intro i v h
    have key : ∀ q, .inr q ∈ sp_xo (sp_tab g).1 v → zs (sp_tab g).1 q.1 ≤ f := fun q hq => by
      have a := (in_sz hq).1
      have b := (sub_at (tb_ok hg).1 hq).2.2.2.1
      unfold zs at h
      omega
    show (if cdn g v = 1 then _ else if cdn g v = 5 ∧ own (sp_xo (sp_tab g).1 v) = 0 then ((sp_xo (sp_tab g).1 v).map (fun x => match x with
      | .inl _ => 0
      | .inr q => pot g W (f + 1) (md i q.2.1) q.1)).sum
    else ((sp_xo (sp_tab g).1 v).map (fun x => match x with
      | .inl x => W i * (x - g.1)
      | .inr q => pot g W (f + 1) i q.1)).sum) = (if cdn g v = 1 then _ else if cdn g v = 5 ∧ own (sp_xo (sp_tab g).1 v) = 0 then ((sp_xo (sp_tab g).1 v).map (fun x => match x with
      | .inl _ => 0
      | .inr q => pot g W f (md i q.2.1) q.1)).sum
    else ((sp_xo (sp_tab g).1 v).map (fun x => match x with
      | .inl x => W i * (x - g.1)
      | .inr q => pot g W f i q.1)).sum)
    have e1 : (sp_xo (sp_tab g).1 v).map (fun x => match x with
      | .inl _ => 0
      | .inr q => pot g W (f + 1) (md i q.2.1) q.1) = (sp_xo (sp_tab g).1 v).map (fun x => match x with
      | .inl _ => 0
      | .inr q => pot g W f (md i q.2.1) q.1) := List.map_congr_left (fun x hx => by
        cases x with
        | inl n => rfl
        | inr q => exact ih _ _ (key q hx))
    have e2 : (sp_xo (sp_tab g).1 v).map (fun x => match x with
      | .inl x => W i * (x - g.1)
      | .inr q => pot g W (f + 1) i q.1) = (sp_xo (sp_tab g).1 v).map (fun x => match x with
      | .inl x => W i * (x - g.1)
      | .inr q => pot g W f i q.1) := List.map_congr_left (fun x hx => by
        cases x with
        | inl n => rfl
        | inr q => exact ih _ _ (key q hx))
    rw [e1, e2]
theorem in_n2 {xs : List sp_X} {q : Nat × Nat × Nat × List Nat} (h : .inr q ∈ xs) (lo : Nat) : q.2.2.2.length ≤ (sp_ints xs).length ∧ (q.2.2.2.map (fun x => x - lo)).sum ≤ ((sp_ints xs).map (fun x => x - lo)).sum := by
  induction xs with
  | nil => cases h
  | cons x r ih =>
    rcases List.mem_cons.mp h with z | z
    · subst z
      show _ ≤ (q.2.2.2 ++ sp_ints r).length ∧ _ ≤ ((q.2.2.2 ++ sp_ints r).map _).sum
      rw [List.length_append, List.map_append, List.sum_append]; omega
    · have := ih z
      cases x with
      | inl n =>
        show _ ≤ (n :: sp_ints r).length ∧ _ ≤ ((n :: sp_ints r).map _).sum
        rw [List.length_cons, List.map_cons, List.sum_cons]; omega
      | inr p =>
        show _ ≤ (p.2.2.2 ++ sp_ints r).length ∧ _ ≤ ((p.2.2.2 ++ sp_ints r).map _).sum
        rw [List.length_append, List.map_append, List.sum_append]; omega
theorem phi_sub {g : sp_G} (hg : sp_wg g) {v : Nat} {q : Nat × Nat × Nat × List Nat} (hq : .inr q ∈ sp_xo (sp_tab g).1 v) : pot g (Wt (kv g q.1)) 8 0 q.1 ≤ pot g (Wt (kv g v)) 8 0 v := by
  have hT := (tb_ok hg).1
  obtain ⟨b1, b2, b3, b4, b5⟩ := sub_at hT hq
  have hz := (in_sz hq).1
  obtain ⟨n1, n2⟩ := in_n2 hq g.1
  have hzs : zs (sp_tab g).1 q.1 < zs (sp_tab g).1 v := by
    rw [← b4]; show q.2.1 < 1 + sp_size (sp_xo (sp_tab g).1 v); omega
  have hz8 := (rn_nn hT b2).2.1
  have hnn : nn (sp_tab g).1 q.1 ≤ nn (sp_tab g).1 v := by
    unfold nn; rw [← b5]; exact n1
  have hup : up g q.1 ≤ up g v := by
    unfold up; rw [← b5]; exact n2
  have hkv : kv g q.1 ≤ kv g v := kap_le (by omega) hnn
  have hn3 := (rn_nn hT b3).1
  rw [pot_fuel hg 7 0 q.1 (by omega)]
  show _ ≤ pot g (Wt (kv g v)) (7 + 1) 0 v
  have hd : pot g (Wt (kv g v)) (7 + 1) 0 v = (if cdn g v = 1 then min (Wt (kv g v) 0 * up g v) (Wt (kv g v) 0 * (up g v - nn (sp_tab g).1 v * (nn (sp_tab g).1 v - 1) / 2) + oex (g.2.1 - g.1) (zs (sp_tab g).1 v) (nn (sp_tab g).1 v))
    else if cdn g v = 5 ∧ own (sp_xo (sp_tab g).1 v) = 0 then ((sp_xo (sp_tab g).1 v).map (fun x => match x with
      | .inl _ => 0
      | .inr q => pot g (Wt (kv g v)) 7 (md 0 q.2.1) q.1)).sum
    else ((sp_xo (sp_tab g).1 v).map (fun x => match x with
      | .inl x => Wt (kv g v) 0 * (x - g.1)
      | .inr q => pot g (Wt (kv g v)) 7 0 q.1)).sum) := rfl
  rw [hd]
  by_cases c1 : cdn g v = 1
  · rw [if_pos c1]
    have p1 := pot_le hg (Wt_le (kv g q.1)) 7 0 q.1
    have p2 : kv g q.1 * up g q.1 ≤ Wt (kv g v) 0 * up g v := Nat.mul_le_mul hkv hup
    have p3 : kv g q.1 * up g q.1 ≤ oex (g.2.1 - g.1) (zs (sp_tab g).1 v) (nn (sp_tab g).1 v) := by
      refine Nat.le_trans (Nat.mul_le_mul_left _ (up_le hg b3)) ?_
      unfold oex kv
      have hq1 : 1 ≤ zs (sp_tab g).1 q.1 := Nat.le_add_right _ _
      rw [if_neg (by omega)]
      by_cases h2 : zs (sp_tab g).1 v = 2
      · rw [if_pos h2]
        have e1 : zs (sp_tab g).1 q.1 = 1 := by omega
        rw [e1]
        rw [e1] at hn3
        exact Nat.mul_le_mul (kap_le (Nat.le_refl _) (by omega)) (Nat.mul_le_mul_left _ (by omega))
      · rw [if_neg h2]
        exact Nat.mul_le_mul (kap_le (by omega) hnn) (Nat.mul_le_mul_left _ hnn)
    exact Nat.le_min.mpr ⟨Nat.le_trans p1 p2, Nat.le_trans p1 (Nat.le_trans p3 (Nat.le_add_left _ _))⟩
  · rw [if_neg c1]
    by_cases c2 : cdn g v = 5 ∧ own (sp_xo (sp_tab g).1 v) = 0
    · rw [if_pos c2]
      refine Nat.le_trans ?_ (mem_sum (F := fun x => match x with
        | .inl _ => 0
        | .inr q => pot g (Wt (kv g v)) 7 (md 0 q.2.1) q.1) hq)
      show _ ≤ pot g (Wt (kv g v)) 7 (md 0 q.2.1) q.1
      rw [b4]
      by_cases h5 : zs (sp_tab g).1 q.1 ≤ 5
      · have em : md 0 (zs (sp_tab g).1 q.1) = 1 := by unfold md; rw [if_neg (by decide), if_pos h5]
        rw [em]
        have hk : kv g q.1 ≤ 210 := kap_le (k' := 5) (n' := 11) h5 (by omega)
        exact pot_mono (Rel := fun _ i' => i' = 1) (fun i i' h => by rw [h]; exact Nat.le_trans (Wt_le _ i) (Wt_1 hkv hk)) (fun i i' s h => by rw [h]; rfl) 7 0 1 q.1 rfl
      · by_cases h6 : zs (sp_tab g).1 q.1 = 6
        · have em : md 0 (zs (sp_tab g).1 q.1) = 2 := by unfold md; rw [if_neg (by decide), if_neg h5, if_pos h6]
          rw [em]
          have hk : kv g q.1 ≤ 299 := Nat.le_trans (show kap _ _ ≤ _ from kap_le (k' := 6) (n' := 13) (Nat.le_of_eq h6) (by omega)) (by decide)
          refine pot_mono (Rel := fun i i' => i = i' ∨ (i = 0 ∧ i' = 2)) (fun i i' h => ?_) (fun i i' s h => ?_) 7 0 2 q.1 (Or.inr ⟨rfl, rfl⟩)
          · rcases h with rfl | ⟨rfl, rfl⟩
            · exact Wt_mono hkv i
            · exact Wt_22 hkv hk
          · rcases h with rfl | ⟨rfl, rfl⟩
            · exact Or.inl rfl
            · exact md_02 s
        · have em : md 0 (zs (sp_tab g).1 q.1) = 0 := by unfold md; rw [if_neg (by decide), if_neg h5, if_neg h6]
          rw [em]
          exact pot_mono (Rel := fun i i' => i = i') (fun i i' h => by rw [h]; exact Wt_mono hkv i') (fun i i' s h => by rw [h]) 7 0 0 q.1 rfl
    · rw [if_neg c2]
      refine Nat.le_trans ?_ (mem_sum (F := fun x => match x with
        | .inl x => Wt (kv g v) 0 * (x - g.1)
        | .inr q => pot g (Wt (kv g v)) 7 0 q.1) hq)
      exact pot_mono (Rel := fun i i' => i = i') (fun i i' h => by rw [h]; exact Wt_mono hkv i') (fun i i' s h => by rw [h]) 7 0 0 q.1 rfl
