/-! ===== the room: all of it ===== -/
theorem rt_cnt : ∀ l : List sp_C, (∀ q ∈ l, rm_t q ≤ 2) → (l.map rm_t).sum + 2 * l.countP (fun q => decide (rm_t q = 0)) + l.countP (fun q => decide (rm_t q = 1)) = 2 * l.length := by
  intro l
  induction l with
  | nil => intro _; rfl
  | cons q l ih =>
    intro h
    have h1 := h q List.mem_cons_self
    have h2 := ih (fun x hx => h x (List.mem_cons_of_mem _ hx))
    rw [List.map_cons, List.sum_cons, List.countP_cons, List.countP_cons, List.length_cons]
    rcases (show rm_t q = 0 ∨ rm_t q = 1 ∨ rm_t q = 2 by omega) with z | z | z
    · rw [z, if_pos (by decide), if_neg (by decide)]; omega
    · rw [z, if_neg (by decide), if_pos (by decide)]; omega
    · rw [z, if_neg (by decide), if_neg (by decide)]; omega
/-- where no constructor has just one type parameter, all sizes are odd -/
theorem odd_sz {g : sp_G} (hg : sp_wg g) (h1 : ∀ q ∈ g.2.2.2, rm_t q ≠ 1) : ∀ (n v : Nat), v < n → v < (sp_tab g).1.length → zs (sp_tab g).1 v % 2 = 1 := by
  intro n
  induction n with
  | zero => intro v h; exact absurd h (Nat.not_lt_zero _)
  | succ n ih =>
    intro v hn hv
    have hT := (tb_ok hg).1
    have he : (sp_tab g).1[v]? = some (sp_tab g).1[v] := List.getElem?_eq_getElem hv
    obtain ⟨q, q1, q2, q3, q4, q5⟩ := sp_tab_ty hg _ (List.getElem_mem hv)
    have hqm := List.mem_of_getElem? q1
    have hwc := hg.2.2.2.2 q hqm
    rw [← xo_eq he] at q3 q4
    have r0 := ars_rt hwc q3 q4
    have r1 := rm_t2 hg.2.2.1 hwc
    have r2 := h1 q hqm
    have r4 : zs (sp_tab g).1 v = 1 + ((ars (sp_xo (sp_tab g).1 v)).map (fun q => q.2.1)).sum := by unfold zs; rw [sz_ars]
    have ss : ∀ p ∈ ars (sp_xo (sp_tab g).1 v), p.2.1 % 2 = 1 := fun p hp => by
      obtain ⟨b1, b2, b3, b4, b5⟩ := sub_at hT (ars_in hp)
      rw [b4]
      exact ih p.1 (by omega) b3
    generalize ars (sp_xo (sp_tab g).1 v) = A at *
    match A, r0 with
    | [], _ => rw [r4]; rfl
    | [p], r0 => exact absurd r0.symm r2
    | [p, p'], _ =>
      have s1 := ss p List.mem_cons_self
      have s2 := ss p' (List.mem_cons_of_mem _ List.mem_cons_self)
      have r4 : zs (sp_tab g).1 v = 1 + (p.2.1 + (p'.2.1 + 0)) := r4
      omega
    | p :: p' :: p'' :: A, r0 =>
      have r0 : A.length + 1 + 1 + 1 = rm_t q := r0
      omega
/-- a making's slots -/
theorem rx_all {g : sp_G} (hg : sp_wg g) (K : Nat) : mk_S g 8 [] 0 ≤ 1760 ∨ mk_S g 8 [] 0 + 5 * ((K - 1) * cz K (sp_tab g).1) ≤ 19760 ∨ mk_S g 8 [] 0 + 6 * ((K - 1) * cz K (sp_tab g).1) ≤ 20996 ∨ (mk_S g 8 [] 0 + 7 * ((K - 1) * cz K (sp_tab g).1) ≤ 23000 ∧ ∀ v, v < (sp_tab g).1.length → zs (sp_tab g).1 v % 2 = 1) := by
  by_cases h0 : ∃ q ∈ g.2.2.2, rm_t q = 0
  · have hl := hg.2.2.2.1
    have h2 := (rm_tl hg.2.2.1 g.2.2.2 hg.2.2.2.2).2 h0
    have h3 : ∀ T : List sp_E, (g.2.2.2.map (rf_cSq g T)).sum + 12 * (g.2.2.2.map rm_t).sum ≤ (g.2.2.2.map rm_t).sum * T.length + 216 := fun T => by
      have := rx_cSl hg T g.2.2.2 (fun q hq => hq)
      omega
    have hcn := rt_cnt g.2.2.2 (fun q hq => rm_t2 hg.2.2.1 (hg.2.2.2.2 q hq))
    have hp0 : 0 < g.2.2.2.countP (fun q => decide (rm_t q = 0)) := by
      obtain ⟨q, q1, q2⟩ := h0
      exact List.countP_pos_iff.mpr ⟨q, q1, decide_eq_true q2⟩
    have run : ∀ (A t : Nat), (t = 8 ∨ t = 9 ∨ t = 10) → (∀ T : List sp_E, 4 + (g.2.2.2.map (rf_cSq g T)).sum ≤ A + t * T.length) → mk_S g 8 [] 0 + (t - 3) * ((K - 1) * cz K (sp_tab g).1) ≤ A * 8 + 300 * (t * 7 + 28 - 24) := fun A t ht hlev => by
      have := rx_mk hg (K := K) ht hlev 8 0 [] rfl ⟨by simp, fun v e he => by simp at he⟩ (fun v w e f _ z => by simp at z) (fun e z => absurd z List.not_mem_nil)
      have e1 : cz K (sp_mk g 8 [] 0).1 - cz K [] = cz K (sp_tab g).1 := Nat.sub_zero _
      rw [e1] at this
      have e2 : A * 8 + t * 8 * ([] : List sp_E).length + (300 - ([] : List sp_E).length) * ((8 - (8 - 1)) * (t * (8 - 1) + 28 - 3 * 8)) = A * 8 + 300 * (t * 7 + 28 - 24) := by
        show A * 8 + t * 8 * 0 + 300 * (1 * (t * 7 + 28 - 24)) = _
        rw [Nat.mul_zero, Nat.one_mul, Nat.add_zero]
      rw [e2] at this
      exact this
    rcases (show (g.2.2.2.map rm_t).sum = 10 ∨ (g.2.2.2.map rm_t).sum = 9 ∨ (g.2.2.2.map rm_t).sum ≤ 8 by omega) with z | z | z
    · refine Or.inr (Or.inr (Or.inr ⟨run 100 10 (by omega) (fun T => by have := h3 T; rw [z] at this; omega), fun v hv => odd_sz hg (fun q hq hz => ?_) (v + 1) v (Nat.lt_succ_self _) hv⟩))
      have : 0 < g.2.2.2.countP (fun q => decide (rm_t q = 1)) := List.countP_pos_iff.mpr ⟨q, hq, decide_eq_true hz⟩
      omega
    · exact Or.inr (Or.inr (Or.inl (run 112 9 (by omega) (fun T => by have := h3 T; rw [z] at this; omega))))
    · refine Or.inr (Or.inl (run 220 8 (by omega) (fun T => ?_)))
      have a := h3 T
      have b := Nat.mul_le_mul_right T.length z
      omega
  · exact Or.inl (rm_mkS0 hg h0 8 0)
theorem tgts_3 : tgts.all (fun x => decide (3 ≤ x.1)) = true := by decide +kernel
/-- the slots of the dearest way down, against how many values have this size -/
theorem dnS_all {g : sp_G} (hg : sp_wg g) {v : Nat} (hv : v < (sp_tab g).1.length) : ∃ B, Fam g v B ∧ dn_v (fr_S (sp_tab g).1) (sp_tab g).1 v ≤ 27332 ∧ dn_v (fr_S (sp_tab g).1) (sp_tab g).1 v ≤ 21235 + 5 * ((zs (sp_tab g).1 v - 1) * B) ∧ dn_v (fr_S (sp_tab g).1) (sp_tab g).1 v ≤ 19999 + 6 * ((zs (sp_tab g).1 v - 1) * B) ∧ (zs (sp_tab g).1 v = 8 ∨ dn_v (fr_S (sp_tab g).1) (sp_tab g).1 v ≤ 17995 + 7 * ((zs (sp_tab g).1 v - 1) * B)) := by
  have hd := dnS_le hg hv
  obtain ⟨n1, n2, -⟩ := rn_nn (tb_ok hg).1 hv
  have hw6 : g.2.1 - g.1 < 6 := by have := hg.2.1; omega
  have ht := List.all_eq_true.mp (List.all_eq_true.mp (List.all_eq_true.mp tgts_all (g.2.1 - g.1) (List.mem_range.mpr hw6)) (zs (sp_tab g).1 v) (List.mem_range.mpr (by omega))) (nn (sp_tab g).1 v) (List.mem_range.mpr (by omega))
  rcases (Bool.or_eq_true _ _).mp ht with z | z
  · have h1 := of_decide_eq_true z
    have h2 : phi g v ≤ kap (zs (sp_tab g).1 v) (nn (sp_tab g).1 v) * ((g.2.1 - g.1) * nn (sp_tab g).1 v) := phi_le hg hv
    refine ⟨1, fam_one hv, ?_⟩
    by_cases h8 : zs (sp_tab g).1 v = 8
    · rw [if_pos h8] at h1
      exact ⟨by omega, by omega, by omega, Or.inl h8⟩
    · rw [if_neg h8] at h1
      exact ⟨by omega, by omega, by omega, Or.inr (by omega)⟩
  · obtain ⟨x, x1, x2⟩ := List.any_eq_true.mp z
    obtain ⟨e1, e2⟩ := (Bool.and_eq_true _ _).mp x2
    obtain ⟨e2, e3⟩ := (Bool.and_eq_true _ _).mp e2
    have e1 : x.1 = g.2.1 - g.1 := eq_of_beq e1
    have e2 : x.2.1 = zs (sp_tab g).1 v := eq_of_beq e2
    have e3 : x.2.2.1 = nn (sp_tab g).1 v := eq_of_beq e3
    have h3 := of_decide_eq_true (List.all_eq_true.mp tgts_3 x x1)
    obtain ⟨c1, c2⟩ := (Bool.and_eq_true _ _).mp (List.all_eq_true.mp tgts_ok x x1)
    rw [e1, e2, e3] at c1
    rw [e2, e3] at c2
    obtain ⟨p, p1, p2, p3⟩ := tab_ok hg (by omega) c1 8 v 0 (by decide) hv n2 (Nat.le_refl _)
    have p3 : phi g v + x.2.2.2.1 * nn (sp_tab g).1 v ≤ p.2 := p3
    obtain ⟨f1, f2⟩ := (Bool.and_eq_true _ _).mp (List.all_eq_true.mp c2 p p1)
    obtain ⟨f2, f3⟩ := (Bool.and_eq_true _ _).mp f2
    obtain ⟨f3, f4⟩ := (Bool.and_eq_true _ _).mp f3
    have f1 := of_decide_eq_true f1
    have f2 := of_decide_eq_true f2
    have f3 := of_decide_eq_true f3
    refine ⟨p.1, p2, by omega, by omega, by omega, ?_⟩
    rcases (Bool.or_eq_true _ _).mp f4 with y | y
    · exact Or.inl (eq_of_beq y)
    · have y := of_decide_eq_true y
      exact Or.inr (by omega)
theorem rm_ok_all : ∀ g, sp_wg g → rm_ok g := by
  intro g hg v hv
  have a1 := frS_1000 hg hv
  have a2 := frC_le hg hv
  have a3 := dnC_le hg hv
  have a4 := rm_mkC hg 8 0 [] rfl ⟨by simp, fun v e he => by simp at he⟩ (fun v w e f _ z => by simp at z) (fun e z => absurd z List.not_mem_nil)
  have a5 : mk_C g 8 [] 0 ≤ 1316 := Nat.le_trans (Nat.le_add_right _ _) a4
  obtain ⟨B, b1, b2, b3, b4, b5⟩ := dnS_all hg hv
  have c1 := Nat.mul_le_mul_left (zs (sp_tab g).1 v - 1) (fam_cz b1)
  refine ⟨a1, by omega, b2, ?_, by omega, by omega⟩
  rcases rx_all hg (zs (sp_tab g).1 v) with z | z | z | ⟨z, zo⟩
  · omega
  · omega
  · omega
  · have := zo v hv
    rcases b5 with y | y
    · omega
    · omega
