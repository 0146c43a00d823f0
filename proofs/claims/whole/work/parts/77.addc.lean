/-! ===== the reference's addConstructor, purely ===== -/
def ac_row (a b c : Int32) (i : Nat) : Int32 := match i with
  | 0 => a
  | 1 => b
  | _ => c
/-- the flag after i parameters -/
def ac_F (σ : sp_St) (k0 : Bool) (f : Nat → Int32) : Nat → Bool
  | 0 => k0
  | i + 1 => ac_F σ k0 f i && (po_isT σ (f i) || (decide (f i = 9) || decide (f i = -1))) && (decide (i = 0) || (!decide (f (i - 1) = -1) || decide (f i = -1)))
/-- the types among i parameters -/
def ac_N (σ : sp_St) (f : Nat → Int32) : Nat → Nat
  | 0 => 0
  | i + 1 => ac_N σ f i + (if po_isT σ (f i) then 1 else 0)
theorem ac_N_le (σ : sp_St) (f : Nat → Int32) (i : Nat) : ac_N σ f i ≤ i := by
  induction i with
  | zero => exact Nat.le_refl _
  | succ i ih =>
    show ac_N σ f i + (if po_isT σ (f i) then 1 else 0) ≤ i + 1
    split <;> omega
theorem ac_bool : ∀ k0 ta tb tc a1 b1 c1 a9 b9 c9 : Bool, ((((k0 && (ta || (a9 || a1)) && (true || (!a1 || a1))) && (tb || (b9 || b1)) && (false || (!a1 || b1))) && (tc || (c9 || c1)) && (false || (!b1 || c1))) && !decide (0 + (if ta then 1 else 0) + (if tb then 1 else 0) + (if tc then 1 else 0) = 3)) = (k0 && (((a1 || (a9 || ta)) && ((b1 || (b9 || tb)) && (c1 || (c9 || tc)))) && (!((a1 && !b1) || (b1 && !c1)) && !(ta && (tb && tc))))) := by
  intro k0 ta tb tc a1 b1 c1 a9 b9 c9
  cases k0 <;> cases ta <;> cases tb <;> cases tc <;> cases a1 <;> cases b1 <;> cases c1 <;> cases a9 <;> cases b9 <;> cases c9 <;> rfl
theorem ac_end (σ : sp_St) (k0 : Bool) (a b c : Int32) : (ac_F σ k0 (ac_row a b c) 3 && !decide (ac_N σ (ac_row a b c) 3 = 3)) = (k0 && po_pars σ a b c) := ac_bool k0 (po_isT σ a) (po_isT σ b) (po_isT σ c) (decide (a = -1)) (decide (b = -1)) (decide (c = -1)) (decide (a = 9)) (decide (b = 9)) (decide (c = 9))
theorem ac_wc {σ : sp_St} (hw : sp_wg σ.1) {t : Nat} (ht : t < σ.1.2.2.1) {a b c : Int32} (hP : po_pars σ a b c = true) {k : Nat} (hk : k ≤ 5) : sp_wc σ.1.2.2.1 (t, po_pn a, po_pn b, po_pn c, k) ∧ sp_pI (po_pn a) = a ∧ sp_pI (po_pn b) = b ∧ sp_pI (po_pn c) = c := by
  unfold po_pars at hP
  simp only [Bool.and_eq_true] at hP
  obtain ⟨⟨p1, p2, p3⟩, p4, p5⟩ := hP
  have h4 := hw.2.2.1
  have pa := pn_ok h4 p1
  have pb := pn_ok h4 p2
  have pc := pn_ok h4 p3
  refine ⟨⟨ht, fun i hi3 => ?_, fun z => ?_, fun z => ?_, ?_, hk⟩, pa.1, pb.1, pc.1⟩
  · rcases (show i = 0 ∨ i = 1 ∨ i = 2 by omega) with rfl | rfl | rfl
    · exact pa.2.2.1
    · exact pb.2.2.1
    · exact pc.2.2.1
  · have z := pa.2.2.2.1.mpr z
    refine pb.2.2.2.1.mp (Decidable.byContradiction (fun hb => ?_))
    simp [z, hb] at p4
  · have z := pb.2.2.2.1.mpr z
    refine pc.2.2.2.1.mp (Decidable.byContradiction (fun hb => ?_))
    simp [z, hb] at p4
  · rintro ⟨z1, z2, z3⟩
    rw [pa.2.2.2.2.mpr z1, pb.2.2.2.2.mpr z2, pc.2.2.2.2.mpr z3] at p5
    exact absurd p5 (by decide)
theorem ac_wg {g : sp_G} (hw : sp_wg g) (h6 : g.2.2.2.length < 6) {q : sp_C} (hq : sp_wc g.2.2.1 q) : sp_wg (g.1, g.2.1, g.2.2.1, g.2.2.2 ++ [q]) := by
  refine ⟨hw.1, hw.2.1, hw.2.2.1, ?_, fun x hx => ?_⟩
  · show (g.2.2.2 ++ [q]).length ≤ 6
    rw [List.length_append]; show g.2.2.2.length + 1 ≤ 6; omega
  · rcases List.mem_append.mp hx with z | z
    · exact hw.2.2.2.2 x z
    · cases List.mem_singleton.mp z; exact hq
theorem ac_gr {R R' : rw_S} {g : sp_G} (hg : rw_gr R g) {q : sp_C} (e1 : R'.1 1 = R.1 1) (e2 : R'.1 2 = R.1 2) (e3 : R'.1 3 = R.1 3) (e4 : R'.1 4 = nI (g.2.2.2.length + 1)) (f1 : R'.2.1 1 = upd (R.2.1 1) g.2.2.2.length (nI q.1)) (f2 : R'.2.1 2 = upd (upd (upd (R.2.1 2) (3 * g.2.2.2.length) (sp_pI q.2.1)) (3 * g.2.2.2.length + 1) (sp_pI q.2.2.1)) (3 * g.2.2.2.length + 2) (sp_pI q.2.2.2.1)) (f3 : R'.2.1 3 = upd (R.2.1 3) g.2.2.2.length (nI q.2.2.2.2)) : rw_gr R' (g.1, g.2.1, g.2.2.1, g.2.2.2 ++ [q]) := by
  obtain ⟨g1, g2, g3, g4, g5⟩ := hg
  refine ⟨e1.trans g1, e2.trans g2, e3.trans g3, ?_, fun c x hx => ?_⟩
  · rw [e4]; show _ = nI (g.2.2.2 ++ [q]).length; rw [List.length_append]; rfl
  · have hx : (g.2.2.2 ++ [q])[c]? = some x := hx
    by_cases hc : c < g.2.2.2.length
    · rw [List.getElem?_append_left hc] at hx
      obtain ⟨w1, w2, w3⟩ := g5 c x hx
      refine ⟨by rw [f1, pk_un (by omega)]; exact w1, fun k hk => ?_, by rw [f3, pk_un (by omega)]; exact w3⟩
      rw [f2, pk_un (by omega), pk_un (by omega), pk_un (by omega)]; exact w2 k hk
    · rw [List.getElem?_append_right (by omega)] at hx
      have hc0 : c - g.2.2.2.length = 0 := by
        have := (List.getElem?_eq_some_iff.mp hx).1
        simp at this; omega
      rw [hc0] at hx
      cases hx
      have hcl : c = g.2.2.2.length := by omega
      subst hcl
      refine ⟨by rw [f1]; exact if_pos rfl, fun k hk => ?_, by rw [f3]; exact if_pos rfl⟩
      rcases (show k = 0 ∨ k = 1 ∨ k = 2 by omega) with rfl | rfl | rfl
      · rw [f2, pk_un (by omega), pk_un (by omega)]; exact if_pos rfl
      · rw [f2, pk_un (by omega)]; exact if_pos rfl
      · rw [f2]; exact if_pos rfl
