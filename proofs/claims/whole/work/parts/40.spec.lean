/-! ===== what the calls answer, purely ===== -/
/-- the grammar, what is told, the selected value (its place in the table) -/
abbrev sp_St : Type := sp_G × List Nat × Option Nat
/-- an exception's number (0: none) and the answer; the state behind -/
abbrev po_R : Type := (Nat × Int32) × sp_St
def po_T (σ : sp_St) : List sp_E := (sp_tab σ.1).1
def po_H (σ : sp_St) : Nat := (sp_tab σ.1).2
def po_isT (σ : sp_St) (t : Int32) : Bool := decide (¬ t < 0 ∧ t < nI σ.1.2.2.1)
def po_setRange (σ : sp_St) (a b : Int32) : po_R := if a < 0 ∨ 5 < b ∨ b < a then ((1, 0), σ) else ((0, if a = nI σ.1.1 ∧ b = nI σ.1.2.1 then 0 else 1), ((a.toNatClampNeg, b.toNatClampNeg, σ.1.2.2), σ.2.1, none))
def po_addType (σ : sp_St) : po_R := if σ.1.2.2.1 = 4 then ((1, 0), σ) else ((0, nI σ.1.2.2.1), ((σ.1.1, σ.1.2.1, σ.1.2.2.1 + 1, σ.1.2.2.2), σ.2.1, none))
def po_isP (σ : sp_St) (p : Int32) : Bool := decide (p = -1) || (decide (p = 9) || po_isT σ p)
def po_pn (p : Int32) : Nat := if p = -1 then 10 else p.toNatClampNeg
def po_pars (σ : sp_St) (a b c : Int32) : Bool := (po_isP σ a && (po_isP σ b && po_isP σ c)) && (!((decide (a = -1) && !decide (b = -1)) || (decide (b = -1) && !decide (c = -1))) && !(po_isT σ a && (po_isT σ b && po_isT σ c)))
def po_addCon (σ : sp_St) (t a b c k : Int32) : po_R := if po_isT σ t = false then ((1, 0), σ) else if po_pars σ a b c = false ∨ k < 0 ∨ 5 < k then ((2, 0), σ) else if σ.1.2.2.2.length = 6 then ((3, 0), σ) else ((0, nI σ.1.2.2.2.length), ((σ.1.1, σ.1.2.1, σ.1.2.2.1, σ.1.2.2.2 ++ [(t.toNatClampNeg, po_pn a, po_pn b, po_pn c, k.toNatClampNeg)]), σ.2.1, none))
def po_asks (σ : sp_St) (t s : Int32) : Nat := if po_isT σ t = false then 1 else if s < 1 ∨ 8 < s then 2 else if nI (po_H σ) < s then 3 else 0
def po_up (σ : sp_St) (t : Int32) (s : Nat) : Nat := sp_upto (po_T σ) t.toNatClampNeg s
def po_count (σ : sp_St) (t s : Int32) : po_R := ((po_asks σ t s, nI (po_up σ t s.toNatClampNeg - po_up σ t (s.toNatClampNeg - 1))), σ)
def po_total (σ : sp_St) (t s : Int32) : po_R := ((po_asks σ t s, nI (po_up σ t s.toNatClampNeg)), σ)
def po_unfit (T : List sp_E) (p : Nat) (w : Nat) : Bool := !sp_cond p (sp_xo T w)
def po_at (T : List sp_E) (t r : Nat) : Nat := ((sp_of T t)[r]?).getD 0
def po_fst (T : List sp_E) (t p n : Nat) : Int32 := match (List.range n).find? (fun r => po_unfit T p (po_at T t r)) with
  | some r => nI r
  | none => -1
def po_against (σ : sp_St) (t p s : Int32) : po_R := ((if po_isT σ t = false then 1 else if p < 1 ∨ 5 < p then 2 else po_asks σ t s, po_fst (po_T σ) t.toNatClampNeg p.toNatClampNeg (po_up σ t s.toNatClampNeg)), σ)
def po_select (σ : sp_St) (t n : Int32) : po_R := if po_isT σ t = false then ((1, 0), σ) else if n < 0 then ((1, 0), σ) else match (sp_of (po_T σ) t.toNatClampNeg)[n.toNatClampNeg]? with
  | none => ((if po_H σ = 8 then 1 else 2, 0), σ)
  | some v => ((0, nI (1 + sp_size (sp_xo (po_T σ) v))), (σ.1, σ.2.1, some v))
def po_seed (z : Int64) : Nat := (z * 6364136223846793005 + 1442695040888963407).toUInt64.toNat / 2 ^ 33
def po_draw (σ : sp_St) (t s : Int32) (z : Int64) : po_R := if po_asks σ t s ≠ 0 then ((po_asks σ t s, 0), σ) else if po_up σ t s.toNatClampNeg - po_up σ t (s.toNatClampNeg - 1) = 0 then ((4, 0), σ) else
  ((0, nI (po_up σ t (s.toNatClampNeg - 1) + po_seed z % (po_up σ t s.toNatClampNeg - po_up σ t (s.toNatClampNeg - 1)))), (σ.1, σ.2.1, some (po_at (po_T σ) t.toNatClampNeg (po_up σ t (s.toNatClampNeg - 1) + po_seed z % (po_up σ t s.toNatClampNeg - po_up σ t (s.toNatClampNeg - 1))))))
def po_tell (σ : sp_St) (c : Int32) : po_R := if ¬ ((¬ c < 0 ∧ c ≤ 5) ∨ (100 ≤ c ∧ c < 106)) then ((1, 0), σ) else if σ.2.1.length = 40 then ((2, 0), σ) else ((0, nI (σ.2.1.length + 1)), (σ.1, σ.2.1 ++ [c.toNatClampNeg], σ.2.2))
def po_read (σ : sp_St) (t : Int32) : po_R := if po_isT σ t = false then ((1, 0), σ) else match sp_look σ.1 41 t.toNatClampNeg σ.2.1 with
  | none => ((0, -1), (σ.1, [], σ.2.2))
  | some p => if p.2 = [] ∧ p.1.1 ≤ 8 then (if po_H σ < p.1.1 then ((2, 0), (σ.1, [], σ.2.2)) else match (sp_of (po_T σ) t.toNatClampNeg).find? (fun w => decide (sp_cd (po_T σ) w = σ.2.1)) with
      | some w => ((0, nI (sp_rk (po_T σ) w)), (σ.1, [], some w))
      | none => ((0, -1), (σ.1, [], σ.2.2)))
    else ((0, -1), (σ.1, [], σ.2.2))
/-- a call on the selected value -/
def po_sel (σ : sp_St) (f : Nat → po_R) : po_R := match σ.2.2 with
  | none => ((1, 0), σ)
  | some v => f v
def po_length (σ : sp_St) : po_R := po_sel σ (fun v => ((0, nI (sp_cd (po_T σ) v).length), σ))
def po_code (σ : sp_St) (i : Int32) : po_R := po_sel σ (fun v => if i < 0 ∨ nI (sp_cd (po_T σ) v).length ≤ i then ((2, 0), σ) else ((0, nI ((sp_cd (po_T σ) v).getD i.toNatClampNeg 0)), σ))
def po_number (σ : sp_St) : po_R := po_sel σ (fun v => ((0, nI (sp_rk (po_T σ) v)), σ))
def po_height (σ : sp_St) : po_R := po_sel σ (fun v => ((0, nI (1 + sp_max (sp_hts (sp_xo (po_T σ) v)))), σ))
def po_mean (σ : sp_St) : (Nat × UInt64) := match σ.2.2 with
  | none => (1, 0)
  | some v => (0, if (sp_ints (sp_xo (po_T σ) v)).length = 0 then FP.dconst0 else FP.ddiv (FP.i2d (nI (sp_ints (sp_xo (po_T σ) v)).sum)) (FP.i2d (nI (sp_ints (sp_xo (po_T σ) v)).length)))
def po_holds (σ : sp_St) (p : Int32) : po_R := po_sel σ (fun v => if p < 1 ∨ 5 < p then ((2, 0), σ) else ((0, if sp_cond p.toNatClampNeg (sp_xo (po_T σ) v) then 1 else 0), σ))
def po_redCount (σ : sp_St) : po_R := po_sel σ (fun v => ((0, nI (sp_red (po_T σ) v).length), σ))
def po_reduction (σ : sp_St) (i : Int32) : po_R := po_sel σ (fun v => if i < 0 ∨ nI (sp_red (po_T σ) v).length ≤ i then ((2, 0), σ) else ((0, nI (sp_rk (po_T σ) ((sp_red (po_T σ) v).getD i.toNatClampNeg 0))), σ))
/-- how often a smaller value is taken, and the last one -/
def po_go (T : List sp_E) (p : Nat) : Nat → Nat → Nat × Nat
  | 0, v => (0, v)
  | f + 1, v => if sp_cond p (sp_xo T v) then (0, v) else match (sp_red T v).find? (po_unfit T p) with
    | none => (0, v)
    | some w => ((po_go T p f w).1 + 1, (po_go T p f w).2)
def po_reduce (σ : sp_St) (p : Int32) : po_R := po_sel σ (fun v => if p < 1 ∨ 5 < p then ((2, 0), σ) else ((0, nI (po_go (po_T σ) p.toNatClampNeg 300 v).1), (σ.1, σ.2.1, some (po_go (po_T σ) p.toNatClampNeg 300 v).2)))
def po_dg (d : Int64) (l : List Int32) : Int64 := l.foldl (fun d x => d * 31 + x.toInt64) d
def po_dgc (q : sp_C) : List Int32 := [nI q.1, sp_pI q.2.1, sp_pI q.2.2.1, sp_pI q.2.2.2.1, nI q.2.2.2.2]
def po_digest (σ : sp_St) : Int64 := po_dg 137 ([nI σ.1.1, nI σ.1.2.1, nI σ.1.2.2.1, nI σ.1.2.2.2.length] ++ σ.1.2.2.2.flatMap po_dgc ++ [nI σ.2.1.length] ++ (match σ.2.2 with
  | none => []
  | some v => (sp_cd (po_T σ) v).map nI))
def po_oc (nm : Nat → String) (o : Nat × Int32) : Option Value ⊕ String := if o.1 = 0 then .inl (some (.int o.2)) else .inr (nm o.1)
/-- the class's cells hold the state -/
def CI (σ : sp_St) (S : cs_S) : Prop := sp_wg σ.1 ∧ cs_g S σ.1 ∧ st_fix S ∧ st_td σ.2.1 S ∧ (∀ t, t < 4 → S.2.1 10 (9 * t) = 0) ∧ (S.1 7 = 0 ∨ (S.1 7 = 1 ∧ st_fin σ.1 (sp_tab σ.1) S)) ∧ S.2.2.2.2.2.2 = σ.2.2 ∧ ∀ v, σ.2.2 = some v → v < (po_T σ).length ∧ S.1 7 = 1
/-- the cells that the grammar and the stock are in stay -/
def st_eq (S S' : cs_S) : Prop := (∀ i, i < 8 → i ≠ 4 → i ≠ 5 → S'.1 i = S.1 i) ∧ (∀ i, i ≤ 10 → S'.2.1 i = S.2.1 i) ∧ (∀ i, i ≤ 14 → S'.2.2.1 i = S.2.2.1 i) ∧ ∀ v, v < 300 → cs_vf S' v = cs_vf S v ∧ cs_vn S' v = cs_vn S v ∧ cs_vp S' v = cs_vp S v
theorem st_eq_g {S S' : cs_S} {g : sp_G} (h : st_eq S S') (hg : cs_g S g) : cs_g S' g := by
  obtain ⟨h0, h1, h2, h3, h4⟩ := hg
  refine ⟨(h.1 0 (by decide) (by decide) (by decide)).trans h0, (h.1 1 (by decide) (by decide) (by decide)).trans h1, (h.1 2 (by decide) (by decide) (by decide)).trans h2, (h.1 3 (by decide) (by decide) (by decide)).trans h3, ?_⟩
  rw [h.2.1 2 (by decide), h.2.1 3 (by decide), h.2.1 4 (by decide), h.2.1 5 (by decide)]; exact h4
theorem st_eq_fix {S S' : cs_S} (h : st_eq S S') (hf : st_fix S) : st_fix S' := by
  unfold st_fix
  rw [h.2.2.1 7 (by decide), h.2.2.1 11 (by decide), h.2.2.1 14 (by decide)]; exact hf
theorem st_eq_fin {g : sp_G} {p : List sp_E × Nat} {S S' : cs_S} (h : st_eq S S') (hf : st_fin g p S) : st_fin g p S' := by
  obtain ⟨h1, h2, h3, h4, h5, h6, h7, h8, h9, h10⟩ := hf
  refine ⟨st_eq_g h h1, st_eq_fix h h2, ⟨?_, fun v e he => ?_⟩, h4, h5, h6, ?_, h8, (h.1 6 (by decide) (by decide) (by decide)).trans h9, (h.1 7 (by decide) (by decide) (by decide)).trans h10⟩
  · rw [h.2.1 9 (by decide)]; exact h3.1
  · have hv : v < 300 := Nat.lt_of_lt_of_le (List.getElem?_eq_some_iff.mp he).1 h4.1
    obtain ⟨a1, a2, a3⟩ := h.2.2.2 v hv
    rw [a1, a2, a3, h.2.2.1 8 (by decide)]
    exact h3.2 v e he
  · unfold st_ends
    rw [h.2.1 10 (by decide)]; exact h7
theorem CI_mv {σ : sp_St} {S S' : cs_S} (hC : CI σ S) (h : st_eq S S') {tl : List Nat} (htd : st_td tl S') {sel : Option Nat} (hs : S'.2.2.2.2.2.2 = sel) (hv : ∀ v, sel = some v → v < (po_T σ).length ∧ S.1 7 = 1) : CI (σ.1, tl, sel) S' := by
  obtain ⟨c1, c2, c3, c4, c5, c6, c7, c8⟩ := hC
  have h7 := h.1 7 (by decide) (by decide) (by decide)
  refine ⟨c1, st_eq_g h c2, st_eq_fix h c3, htd, ?_, ?_, hs, fun v z => ⟨(hv v z).1, h7.trans (hv v z).2⟩⟩
  · rw [h.2.1 10 (by decide)]; exact c5
  · rcases c6 with z | ⟨z1, z2⟩
    · exact Or.inl (h7.trans z)
    · exact Or.inr ⟨h7.trans z1, st_eq_fin h z2⟩
theorem st_eq_dr {S S' : cs_S} (h : st_dr 0 S S') : st_eq S S' := ⟨fun i a _ _ => h.1 i (by omega) (by omega), fun i _ => by rw [h.2.1], fun i _ => by rw [h.2.2.1], fun v hv => h.2.2.2.1 v (by omega)⟩
theorem st_eq_rs {S S' : cs_S} (h : st_rs S S') : st_eq S S' := ⟨fun i a _ _ => h.1 i (by omega), fun i _ => by rw [h.2.1], fun i hi => h.2.2.1 i (by omega), fun v _ => by
  show S'.2.2.2.1 v = _ ∧ S'.2.2.2.2.1 v = _ ∧ S'.2.2.2.2.2.1 v = _
  rw [h.2.2.2]; exact ⟨rfl, rfl, rfl⟩⟩
theorem st_eq_w {k : Nat} {L : List Nat} {S S' : cs_S} (h : st_w k L S S') : st_eq S S' := ⟨fun i a _ _ => h.2.1 i (by omega), fun i hi => h.2.2.1 i (by omega), fun i _ => by rw [h.2.2.2.1], fun v _ => by
  show S'.2.2.2.1 v = _ ∧ S'.2.2.2.2.1 v = _ ∧ S'.2.2.2.2.2.1 v = _
  rw [h.2.2.2.1]; exact ⟨rfl, rfl, rfl⟩⟩
theorem CI_fin {σ : sp_St} {S : cs_S} (hC : CI σ S) {v : Nat} (hs : σ.2.2 = some v) : st_fin σ.1 (sp_tab σ.1) S ∧ ∃ e, (po_T σ)[v]? = some e := by
  obtain ⟨c1, c2, c3, c4, c5, c6, c7, c8⟩ := hC
  obtain ⟨h1, h2⟩ := c8 v hs
  refine ⟨?_, _, List.getElem?_eq_getElem h1⟩
  rcases c6 with z | ⟨z1, z2⟩
  · rw [z] at h2; exact absurd h2 (by decide)
  · exact z2
theorem sp_upto0 (T : List sp_E) (t : Nat) : sp_upto T t 0 = 0 := by
  unfold sp_upto
  rw [List.countP_eq_zero]
  intro e _
  simp
theorem ch_ref {G : ax_G} {ad : cs_K → Nat} (hi : cs_inj ad) {σ : sp_St} (d : Nat) (h : ax_H) {Q : ax_P} (S : cs_S) (hC : CI σ S) (hQ : ∀ S', CI σ S' → st_fin σ.1 (sp_tab σ.1) S' → Q (.inl none) (cs_O ad S' h)) : AW G mX3_refresh (d + 13) 0 0 Q 0 [(0, .ref (ad (0, 6)))] [] (cs_O ad S h) 0 0 := by
  have hC0 := hC
  obtain ⟨c1, c2, c3, c4, c5, c6, c7, c8⟩ := hC
  rcases c6 with z | ⟨z1, z2⟩
  · refine ch_refresh0 hi c1 d h S c2 c3 c5 z (fun S' f1 f2 => hQ S' ⟨c1, f1.1, f1.2.1, ?_, fun t ht => ?_, Or.inr ⟨f1.2.2.2.2.2.2.2.2.2, f1⟩, f2.2.2.2.2.trans c7, fun v hv => ?_⟩ f1)
    · refine ⟨(f2.1 10 (by decide) (by decide) (by decide) (by decide)).trans c4.1, c4.2.1, ?_, c4.2.2.2⟩
      rw [f2.2.1 13 (by decide) (by decide)]; exact c4.2.2.1
    · have := f1.2.2.2.2.2.2.1 t 0 ht (Nat.zero_le _)
      rw [sp_upto0] at this
      exact this
    · have := (c8 v hv).2
      rw [z] at this; exact absurd this (by decide)
  · exact ch_refresh1 hi (d + 13) h S z1 (hQ S hC0 z2)
