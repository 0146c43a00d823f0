/-! ===== the room: tables of (how many, how dear), closed under all kinds of values ===== -/
abbrev Tb : Type := List (List (List (Nat × Nat)))
def tg (t : Tb) (i k : Nat) : List (Nat × Nat) := (t.getD i []).getD k []
def dom (t : Tb) (i k B C : Nat) : Bool := decide (300 < B) || (tg t i k).any (fun p => decide (p.1 ≤ B) && decide (C ≤ p.2))
def ckL (w mu : Nat) (W : Nat → Nat) (t : Tb) (i : Nat) : Bool := (List.range 4).all (fun m => dom t i 1 ((w + 1) ^ (m - 1)) ((W i * w + mu) * m) && dom t i 1 (ascl w m).length (W i * (m * (w + 1 - m)) + mu * m))
def ck1 (w mu : Nat) (W : Nat → Nat) (t : Tb) (i a : Nat) : Bool := (tg t i a).all (fun p => (List.range 3).all (fun m => dom t i (a + 1) (p.1 * (w + 1) ^ (m - 1)) ((W i * w + mu) * m + p.2))) && (tg t (md i a) a).all (fun p => dom t i (a + 1) 1 p.2)
def ckO (w mu : Nat) (W : Nat → Nat) (t : Tb) (i k : Nat) : Bool := (List.range (w + 2)).all (fun n => decide (2 * k + 1 < n) || dom t i k 1 (min (W i * (w * n)) (W i * (n * (w + 1 - n)) + oex w k n) + mu * n))
def ck2 (w mu : Nat) (W : Nat → Nat) (t : Tb) (i a b : Nat) : Bool := (tg t i a).all (fun p => (tg t i b).all (fun q => (List.range 2).all (fun m => dom t i (a + b + 1) (p.1 * q.1 * (w + 1) ^ (m - 1)) ((W i * w + mu) * m + (p.2 + q.2))))) && (tg t (md i a) a).all (fun p => (tg t (md i b) b).all (fun q => dom t i (a + b + 1) (min p.1 q.1) (p.2 + q.2)))
def chk (w K mu : Nat) (W : Nat → Nat) (t : Tb) : Bool := (List.range 3).all (fun i => ckL w mu W t i && (List.range K).all (fun a => (a == 0) || (ck1 w mu W t i a && ckO w mu W t i (a + 1) && (List.range (K - a)).all (fun b => (b == 0) || ck2 w mu W t i a b))))
theorem dom_ex {g : sp_G} (hg : sp_wg g) {v : Nat} {t : Tb} {i k B C : Nat} (h : dom t i k B C = true) (hf : Fam g v B) {c : Nat} (hc : c ≤ C) : ∃ p ∈ tg t i k, Fam g v p.1 ∧ c ≤ p.2 := by
  unfold dom at h
  rcases Bool.or_eq_true _ _ |>.mp h with z | z
  · have := of_decide_eq_true z
    have := fam_300 hg hf
    omega
  · obtain ⟨p, p1, p2⟩ := List.any_eq_true.mp z
    rw [Bool.and_eq_true] at p2
    exact ⟨p, p1, fam_mono hf (of_decide_eq_true p2.1), Nat.le_trans hc (of_decide_eq_true p2.2)⟩
theorem md_lt {i : Nat} (hi : i < 3) (s : Nat) : md i s < 3 := by
  unfold md; repeat' split
  all_goals omega
theorem ck_L {w K mu : Nat} {W : Nat → Nat} {t : Tb} (h : chk w K mu W t = true) {i m : Nat} (hi : i < 3) (hm : m < 4) : dom t i 1 ((w + 1) ^ (m - 1)) ((W i * w + mu) * m) = true ∧ dom t i 1 (ascl w m).length (W i * (m * (w + 1 - m)) + mu * m) = true := by
  have h1 := List.all_eq_true.mp h i (List.mem_range.mpr hi)
  have h2 := ((Bool.and_eq_true _ _).mp h1).1
  exact (Bool.and_eq_true _ _).mp (List.all_eq_true.mp h2 m (List.mem_range.mpr hm))
theorem ck_A {w K mu : Nat} {W : Nat → Nat} {t : Tb} (h : chk w K mu W t = true) {i a : Nat} (hi : i < 3) (ha : a < K) (h0 : a ≠ 0) : ck1 w mu W t i a = true ∧ ckO w mu W t i (a + 1) = true ∧ ∀ b, b ≠ 0 → b < K - a → ck2 w mu W t i a b = true := by
  have h1 := List.all_eq_true.mp h i (List.mem_range.mpr hi)
  have h2 := ((Bool.and_eq_true _ _).mp h1).2
  have h3 := List.all_eq_true.mp h2 a (List.mem_range.mpr ha)
  rcases (Bool.or_eq_true _ _).mp h3 with z | z
  · exact absurd (eq_of_beq z) h0
  · obtain ⟨z1, z2⟩ := (Bool.and_eq_true _ _).mp z
    obtain ⟨z3, z4⟩ := (Bool.and_eq_true _ _).mp z1
    refine ⟨z3, z4, fun b hb hb2 => ?_⟩
    have z5 := List.all_eq_true.mp z2 b (List.mem_range.mpr hb2)
    rcases (Bool.or_eq_true _ _).mp z5 with y | y
    · exact absurd (eq_of_beq y) hb
    · exact y
theorem tab_ok {g : sp_G} (hg : sp_wg g) (hw : g.1 + 1 ≤ g.2.1) {W : Nat → Nat} {mu K : Nat} {t : Tb} (hc : chk (g.2.1 - g.1) K mu W t = true) : ∀ (f v i : Nat), i < 3 → v < (sp_tab g).1.length → zs (sp_tab g).1 v ≤ f → zs (sp_tab g).1 v ≤ K → ∃ p ∈ tg t i (zs (sp_tab g).1 v), Fam g v p.1 ∧ pot g W f i v + mu * nn (sp_tab g).1 v ≤ p.2 := by
  intro f
  induction f with
  | zero => intro v i _ _ h; unfold zs at h; omega
  | succ f ih =>
    intro v i hi hv hf hK
    have hT := (tb_ok hg).1
    have he : (sp_tab g).1[v]? = some (sp_tab g).1[v] := List.getElem?_eq_getElem hv
    obtain ⟨q, q1, q2, q3, q4, q5⟩ := sp_tab_ty hg _ (List.getElem_mem hv)
    have hwc := hg.2.2.2.2 q (List.mem_of_getElem? q1)
    rw [← xo_eq he] at q3 q4
    have r1 : (ars (sp_xo (sp_tab g).1 v)).length ≤ 2 := by rw [ars_rt hwc q3 q4]; exact rm_t2 hg.2.2.1 hwc
    have r2 := ars_len (sp_xo (sp_tab g).1 v)
    have r3 : (sp_xo (sp_tab g).1 v).length ≤ 3 := by rw [q3]; exact sp_ar_le q
    have r4 : zs (sp_tab g).1 v = 1 + ((ars (sp_xo (sp_tab g).1 v)).map (fun q => q.2.1)).sum := by unfold zs; rw [sz_ars]
    have r5 : nn (sp_tab g).1 v = own (sp_xo (sp_tab g).1 v) + ((ars (sp_xo (sp_tab g).1 v)).map (fun q => q.2.2.2.length)).sum := nn_ars _
    have ss : ∀ p ∈ ars (sp_xo (sp_tab g).1 v), p.1 < (sp_tab g).1.length ∧ zs (sp_tab g).1 p.1 = p.2.1 ∧ nn (sp_tab g).1 p.1 = p.2.2.2.length ∧ p.2.1 ≠ 0 ∧ p.2.1 ≤ f ∧ p.2.1 < K := fun p hp => by
      have hm := ars_in hp
      obtain ⟨b1, b2, b3, b4, b5⟩ := sub_at hT hm
      have b6 := (in_sz hm).1
      unfold zs at hf hK
      refine ⟨b3, b4.symm, by unfold nn; rw [b5], ?_, by omega, by omega⟩
      rw [b4]; unfold zs; omega
    have ih2 : ∀ p ∈ ars (sp_xo (sp_tab g).1 v), ∀ i, i < 3 → ∃ x ∈ tg t i p.2.1, Fam g p.1 x.1 ∧ pot g W f i p.1 + mu * p.2.2.2.length ≤ x.2 := fun p hp i hi => by
      obtain ⟨s1, s2, s3, s4, s5, s6⟩ := ss p hp
      have := ih p.1 i hi s1 (by omega) (by omega)
      rwa [s2, s3] at this
    unfold pot
    by_cases c1 : cdn g v = 1
    · rw [if_pos c1]
      obtain ⟨o1, o2⟩ := od_up hg hv c1
      have o3 := Nat.mul_le_mul_left (W i) o2
      by_cases ha : ars (sp_xo (sp_tab g).1 v) = []
      · have z1 : zs (sp_tab g).1 v = 1 := by rw [r4, ha]; rfl
        have z2 : nn (sp_tab g).1 v = (sp_xo (sp_tab g).1 v).length := by
          rw [r5, ← r2, ha]; rfl
        have hd := (ck_L hc hi (m := (sp_xo (sp_tab g).1 v).length) (by omega)).2
        rw [z1]
        refine dom_ex hg hd (fam_od hg hv ha c1) ?_
        rw [← z2]
        have : oex (g.2.1 - g.1) 1 (nn (sp_tab g).1 v) = 0 := rfl
        rw [this]
        omega
      · have hk : ∃ a, a ≠ 0 ∧ zs (sp_tab g).1 v = a + 1 ∧ a < K := by
          cases hx : ars (sp_xo (sp_tab g).1 v) with
          | nil => exact absurd hx ha
          | cons p r =>
            have s := ss p (by rw [hx]; exact List.mem_cons_self)
            rw [hx, List.map_cons, List.sum_cons] at r4
            exact ⟨zs (sp_tab g).1 v - 1, by omega, by omega, by omega⟩
        obtain ⟨a, a0, a1, a2⟩ := hk
        have hO := (ck_A hc hi a2 a0).2.1
        have hd := List.all_eq_true.mp hO (nn (sp_tab g).1 v) (List.mem_range.mpr (by omega))
        rw [← a1] at hd
        rcases (Bool.or_eq_true _ _).mp hd with z | z
        · have := of_decide_eq_true z
          have := (rn_nn hT hv).1
          omega
        · refine dom_ex hg z (fam_one hv) ?_
          have h3 := Nat.mul_le_mul_left (W i) (up_le hg hv)
          omega
    · rw [if_neg c1]
      by_cases c2 : cdn g v = 5 ∧ own (sp_xo (sp_tab g).1 v) = 0
      · rw [if_pos c2]
        have hx := ars_own0 c2.2
        generalize ars (sp_xo (sp_tab g).1 v) = A at *
        match A, r1 with
        | [], _ =>
          have z1 : zs (sp_tab g).1 v = 1 := r4
          have z2 : nn (sp_tab g).1 v = 0 := by rw [r5, c2.2]; rfl
          have hd := (ck_L hc hi (m := 0) (by omega)).1
          rw [z1]
          refine dom_ex hg hd (fam_one hv) ?_
          rw [hx, z2]
          exact Nat.zero_le _
        | [p], _ =>
          obtain ⟨s1, s2, s3, s4, s5, s6⟩ := ss p List.mem_cons_self
          obtain ⟨x, x1, x2, x3⟩ := ih2 p List.mem_cons_self (md i p.2.1) (md_lt hi _)
          have hd := List.all_eq_true.mp ((Bool.and_eq_true _ _).mp (ck_A hc hi s6 s4).1).2 x x1
          have z1 : zs (sp_tab g).1 v = p.2.1 + 1 := by rw [r4]; show 1 + (p.2.1 + 0) = _; omega
          have z2 : nn (sp_tab g).1 v = p.2.2.2.length := by rw [r5, c2.2]; show 0 + (p.2.2.2.length + 0) = _; omega
          rw [z1]
          refine dom_ex hg hd (fam_one hv) ?_
          rw [hx, z2]
          show pot g W f (md i p.2.1) p.1 + 0 + _ ≤ _
          omega
        | [p, p'], _ =>
          obtain ⟨s1, s2, s3, s4, s5, s6⟩ := ss p List.mem_cons_self
          obtain ⟨s1', s2', s3', s4', s5', s6'⟩ := ss p' (List.mem_cons_of_mem _ List.mem_cons_self)
          obtain ⟨x, x1, x2, x3⟩ := ih2 p List.mem_cons_self (md i p.2.1) (md_lt hi _)
          obtain ⟨y, y1, y2, y3⟩ := ih2 p' (List.mem_cons_of_mem _ List.mem_cons_self) (md i p'.2.1) (md_lt hi _)
          have z1 : zs (sp_tab g).1 v = p.2.1 + p'.2.1 + 1 := by rw [r4]; show 1 + (p.2.1 + (p'.2.1 + 0)) = _; omega
          have z2 : nn (sp_tab g).1 v = p.2.2.2.length + p'.2.2.2.length := by rw [r5, c2.2]; show 0 + (p.2.2.2.length + (p'.2.2.2.length + 0)) = _; omega
          have hd := List.all_eq_true.mp (List.all_eq_true.mp ((Bool.and_eq_true _ _).mp ((ck_A hc hi s6 s4).2.2 p'.2.1 s4' (by omega))).2 x x1) y y1
          rw [z1]
          refine dom_ex hg hd (fam_ev hg hv hx c2.1 x2 y2) ?_
          rw [hx, z2, Nat.mul_add]
          show pot g W f (md i p.2.1) p.1 + (pot g W f (md i p'.2.1) p'.1 + 0) + _ ≤ _
          omega
      · rw [if_neg c2]
        obtain ⟨E, hE⟩ : ∃ E : Nat → Nat × Nat, ∀ u, u < (sp_tab g).1.length → zs (sp_tab g).1 u ≤ f → zs (sp_tab g).1 u ≤ K → E u ∈ tg t i (zs (sp_tab g).1 u) ∧ Fam g u (E u).1 ∧ pot g W f i u + mu * nn (sp_tab g).1 u ≤ (E u).2 := ⟨fun u => Classical.epsilon (fun x : Nat × Nat => x ∈ tg t i (zs (sp_tab g).1 u) ∧ Fam g u x.1 ∧ pot g W f i u + mu * nn (sp_tab g).1 u ≤ x.2), fun u h1 h2 h3 => Classical.epsilon_spec (ih u i hi h1 h2 h3)⟩
        have hb : ∀ p ∈ ars (sp_xo (sp_tab g).1 v), Fam g p.1 (E p.1).1 := fun p hp => by
          obtain ⟨s1, s2, s3, s4, s5, s6⟩ := ss p hp
          exact (hE p.1 s1 (by omega) (by omega)).2.1
        have hb2 : ∀ p ∈ ars (sp_xo (sp_tab g).1 v), E p.1 ∈ tg t i p.2.1 ∧ pot g W f i p.1 + mu * p.2.2.2.length ≤ (E p.1).2 := fun p hp => by
          obtain ⟨s1, s2, s3, s4, s5, s6⟩ := ss p hp
          obtain ⟨z1, -, z2⟩ := hE p.1 s1 (by omega) (by omega)
          rw [s2] at z1
          rw [s3] at z2
          exact ⟨z1, z2⟩
        have hF := fam_pl hg hw hv (b := fun u => (E u).1) c1 c2 hb
        have hsum := ms_ars (F := fun x : sp_X => match x with
          | .inl x => W i * (x - g.1)
          | .inr q => pot g W f i q.1) (c := W i * (g.2.1 - g.1)) (xs := sp_xo (sp_tab g).1 v) (fun n hn => by
            obtain ⟨j, hj⟩ := List.getElem?_of_mem hn
            have := q4 j _ hj
            exact Nat.mul_le_mul_left _ (by have := this.2; omega))
        generalize own (sp_xo (sp_tab g).1 v) = m at *
        generalize ars (sp_xo (sp_tab g).1 v) = A at *
        generalize ((sp_xo (sp_tab g).1 v).map (fun x : sp_X => match x with
          | .inl x => W i * (x - g.1)
          | .inr q => pot g W f i q.1)).sum = S at hsum ⊢
        match A, r1 with
        | [], _ =>
          have z1 : zs (sp_tab g).1 v = 1 := r4
          have z2 : nn (sp_tab g).1 v = m := r5
          have hd := (ck_L hc hi (m := m) (by have : m + 0 = _ := r2; omega)).1
          rw [z1]
          have hF : Fam g v (1 * (g.2.1 - g.1 + 1) ^ (m - 1)) := hF
          rw [Nat.one_mul] at hF
          refine dom_ex hg hd hF ?_
          have hsum : S ≤ W i * (g.2.1 - g.1) * m + 0 := hsum
          rw [z2, Nat.add_mul]
          omega
        | [p], _ =>
          obtain ⟨s1, s2, s3, s4, s5, s6⟩ := ss p List.mem_cons_self
          obtain ⟨x1, x3⟩ := hb2 p List.mem_cons_self
          have r2 : m + 1 = _ := r2
          have hd := List.all_eq_true.mp (List.all_eq_true.mp ((Bool.and_eq_true _ _).mp (ck_A hc hi s6 s4).1).1 _ x1) m (List.mem_range.mpr (by omega))
          have z1 : zs (sp_tab g).1 v = p.2.1 + 1 := by rw [r4]; show 1 + (p.2.1 + 0) = _; omega
          have z2 : nn (sp_tab g).1 v = m + p.2.2.2.length := by rw [r5]; show m + (p.2.2.2.length + 0) = _; omega
          rw [z1]
          have hF : Fam g v ((E p.1).1 * 1 * (g.2.1 - g.1 + 1) ^ (m - 1)) := hF
          rw [Nat.mul_one] at hF
          refine dom_ex hg hd hF ?_
          have hsum : S ≤ W i * (g.2.1 - g.1) * m + (pot g W f i p.1 + 0) := hsum
          rw [z2, Nat.add_mul, Nat.mul_add]
          omega
        | [p, p'], _ =>
          obtain ⟨s1, s2, s3, s4, s5, s6⟩ := ss p List.mem_cons_self
          obtain ⟨s1', s2', s3', s4', s5', s6'⟩ := ss p' (List.mem_cons_of_mem _ List.mem_cons_self)
          obtain ⟨x1, x3⟩ := hb2 p List.mem_cons_self
          obtain ⟨y1, y3⟩ := hb2 p' (List.mem_cons_of_mem _ List.mem_cons_self)
          have r2 : m + 2 = _ := r2
          have z1 : zs (sp_tab g).1 v = p.2.1 + p'.2.1 + 1 := by rw [r4]; show 1 + (p.2.1 + (p'.2.1 + 0)) = _; omega
          have z2 : nn (sp_tab g).1 v = m + (p.2.2.2.length + p'.2.2.2.length) := by rw [r5]; show m + (p.2.2.2.length + (p'.2.2.2.length + 0)) = _; omega
          have hd := List.all_eq_true.mp (List.all_eq_true.mp (List.all_eq_true.mp ((Bool.and_eq_true _ _).mp ((ck_A hc hi s6 s4).2.2 p'.2.1 s4' (by omega))).1 _ x1) _ y1) m (List.mem_range.mpr (by omega))
          rw [z1]
          have hF : Fam g v ((E p.1).1 * ((E p'.1).1 * 1) * (g.2.1 - g.1 + 1) ^ (m - 1)) := hF
          rw [Nat.mul_one] at hF
          refine dom_ex hg hd hF ?_
          have hsum : S ≤ W i * (g.2.1 - g.1) * m + (pot g W f i p.1 + (pot g W f i p'.1 + 0)) := hsum
          rw [z2, Nat.add_mul, Nat.mul_add, Nat.mul_add]
          omega
