/-! ===== the room: what reductions can cost; what each call leaves to pay ===== -/
/-- the dearest way down from a value -/
def dn_m (c : Nat → Nat) (T : List sp_E) : Nat → Nat → Nat
  | 0, _ => 0
  | f + 1, v => c v + ((sp_red T v).map (dn_m c T f)).foldr max 0
def dn_v (c : Nat → Nat) (T : List sp_E) (v : Nat) : Nat := dn_m c T (sp_rk T v + 1) v
theorem fx_ge {l : List Nat} {x : Nat} (h : x ∈ l) : x ≤ l.foldr max 0 := by
  induction l with
  | nil => cases h
  | cons a l ih =>
    show x ≤ max a (l.foldr max 0)
    rcases List.mem_cons.mp h with z | z
    · omega
    · have := ih z; omega
theorem fx_le {l : List Nat} {b : Nat} (h : ∀ x ∈ l, x ≤ b) : l.foldr max 0 ≤ b := by
  induction l with
  | nil => exact Nat.zero_le _
  | cons a l ih =>
    show max a (l.foldr max 0) ≤ b
    have h1 := h a List.mem_cons_self
    have h2 := ih (fun x hx => h x (List.mem_cons_of_mem _ hx))
    omega
theorem sp_red_lt {T : List sp_E} (hw : sp_wT T) (hs : sp_srt T) {v w : Nat} (hv : v < T.length) (hm : w ∈ sp_red T v) : w < T.length ∧ sp_rk T w < sp_rk T v ∧ sp_tp T w = sp_tp T v := by
  have he : T[v]? = some T[v] := List.getElem?_eq_getElem hv
  obtain ⟨a, b, d⟩ := (sp_red_IA2 hw hs he).2 w hm
  refine ⟨a, d, b.trans ?_⟩
  unfold sp_tp; rw [he]
theorem dn_mst {T : List sp_E} (hw : sp_wT T) (hs : sp_srt T) (c : Nat → Nat) : ∀ (n f v : Nat), f < n → v < T.length → sp_rk T v < f → dn_m c T f v = dn_v c T v := by
  intro n
  induction n with
  | zero => intro f v h; exact absurd h (Nat.not_lt_zero _)
  | succ n ih =>
    intro f v hf hv hr
    obtain ⟨f, rfl⟩ : ∃ k, f = k + 1 := ⟨f - 1, by omega⟩
    show c v + ((sp_red T v).map (dn_m c T f)).foldr max 0 = c v + ((sp_red T v).map (dn_m c T (sp_rk T v))).foldr max 0
    have e : (sp_red T v).map (dn_m c T f) = (sp_red T v).map (dn_m c T (sp_rk T v)) := by
      refine List.map_congr_left (fun w hm => ?_)
      obtain ⟨a, b, -⟩ := sp_red_lt hw hs hv hm
      rw [ih f w (by omega) a (by omega), ih (sp_rk T v) w (by omega) a b]
    rw [e]
theorem dn_c {T : List sp_E} (c : Nat → Nat) (v : Nat) : c v ≤ dn_v c T v := Nat.le_add_right _ _
theorem dn_st {T : List sp_E} (hw : sp_wT T) (hs : sp_srt T) (c : Nat → Nat) {v w : Nat} (hv : v < T.length) (hm : w ∈ sp_red T v) : c v + dn_v c T w ≤ dn_v c T v := by
  obtain ⟨a, b, -⟩ := sp_red_lt hw hs hv hm
  refine Nat.add_le_add_left (fx_ge ?_) _
  exact List.mem_map.mpr ⟨w, hm, dn_mst hw hs c _ _ _ (Nat.lt_succ_self _) a b⟩
theorem go_sel {T : List sp_E} (hw : sp_wT T) (hs : sp_srt T) (p : Nat) : ∀ (f v : Nat), v < T.length → (po_go T p f v).2 < T.length := by
  intro f
  induction f with
  | zero => intro v hv; exact hv
  | succ f ih =>
    intro v hv
    unfold po_go
    split
    · exact hv
    · cases hfd : (sp_red T v).find? (po_unfit T p) with
      | none => exact hv
      | some w => exact ih w (sp_red_lt hw hs hv (List.mem_of_find?_eq_some hfd)).1
theorem go_S_F {T : List sp_E} (hw : sp_wT T) (hs : sp_srt T) (p : Nat) : ∀ (f v : Nat), v < T.length → go_S T p f v + dn_v (fr_S T) T (po_go T p f v).2 ≤ dn_v (fr_S T) T v + fr_S T (po_go T p f v).2 := by
  intro f
  induction f with
  | zero => intro v hv; show 0 + dn_v _ T v ≤ _; exact Nat.le_trans (Nat.le_of_eq (Nat.zero_add _)) (Nat.le_add_right _ _)
  | succ f ih =>
    intro v hv
    unfold go_S po_go
    by_cases hc : sp_cond p (sp_xo T v) = true
    · rw [if_pos hc, if_pos hc]
      show 0 + dn_v _ T v ≤ dn_v _ T v + _
      omega
    · rw [if_neg hc, if_neg hc]
      cases hfd : (sp_red T v).find? (po_unfit T p) with
      | none =>
        show fr_S T v + 0 + dn_v _ T v ≤ dn_v _ T v + fr_S T v
        omega
      | some w =>
        have hm := List.mem_of_find?_eq_some hfd
        have h1 := ih w (sp_red_lt hw hs hv hm).1
        have h2 := dn_st hw hs (fr_S T) hv hm
        show fr_S T v + go_S T p f w + dn_v _ T (po_go T p f w).2 ≤ dn_v _ T v + fr_S T (po_go T p f w).2
        omega
theorem go_C_F {T : List sp_E} (hw : sp_wT T) (hs : sp_srt T) (p : Nat) : ∀ (f v : Nat), v < T.length → go_C T p f v + dn_v (fr_C T) T (po_go T p f v).2 ≤ dn_v (fr_C T) T v + fr_C T (po_go T p f v).2 := by
  intro f
  induction f with
  | zero => intro v hv; show 0 + dn_v _ T v ≤ _; exact Nat.le_trans (Nat.le_of_eq (Nat.zero_add _)) (Nat.le_add_right _ _)
  | succ f ih =>
    intro v hv
    unfold go_C po_go
    by_cases hc : sp_cond p (sp_xo T v) = true
    · rw [if_pos hc, if_pos hc]
      show 0 + dn_v _ T v ≤ dn_v _ T v + _
      omega
    · rw [if_neg hc, if_neg hc]
      cases hfd : (sp_red T v).find? (po_unfit T p) with
      | none =>
        show fr_C T v + 0 + dn_v _ T v ≤ dn_v _ T v + fr_C T v
        omega
      | some w =>
        have hm := List.mem_of_find?_eq_some hfd
        have h1 := ih w (sp_red_lt hw hs hv hm).1
        have h2 := dn_st hw hs (fr_C T) hv hm
        show fr_C T v + go_C T p f w + dn_v _ T (po_go T p f w).2 ≤ dn_v _ T v + fr_C T (po_go T p f w).2
        omega
/-- what is to be shown of the room -/
def rm_ok (g : sp_G) : Prop := ∀ v, v < (sp_tab g).1.length → fr_S (sp_tab g).1 v ≤ 1000 ∧ fr_C (sp_tab g).1 v ≤ 100 ∧ dn_v (fr_S (sp_tab g).1) (sp_tab g).1 v ≤ 27332 ∧ mk_S g 8 [] 0 + dn_v (fr_S (sp_tab g).1) (sp_tab g).1 v ≤ 40995 ∧ dn_v (fr_C (sp_tab g).1) (sp_tab g).1 v ≤ 2706 ∧ mk_C g 8 [] 0 + dn_v (fr_C (sp_tab g).1) (sp_tab g).1 v ≤ 4058
def pw_S (σ : sp_St) : Nat := match σ.2.2 with
  | none => 0
  | some v => dn_v (fr_S (po_T σ)) (po_T σ) v - 13666
def pw_C (σ : sp_St) : Nat := match σ.2.2 with
  | none => 0
  | some v => dn_v (fr_C (po_T σ)) (po_T σ) v - 1353
/-- what a state holds ready -/
def pS (σ : sp_St) (R : rw_S) : Nat := if R.1 12 = 0 then (if σ.1.2.2.2 = [] then 0 else 13663) else pw_S σ
def pC (σ : sp_St) (R : rw_S) : Nat := if R.1 12 = 0 then (if σ.1.2.2.2 = [] then 0 else 1352) else pw_C σ
theorem tb_cons {g : sp_G} (hw : sp_wg g) {v : Nat} (hv : v < (sp_tab g).1.length) : g.2.2.2 ≠ [] := by
  intro e
  obtain ⟨q, q1, -⟩ := sp_tab_ty hw _ (List.getElem_mem hv)
  rw [e] at q1
  simp at q1
theorem mkS_nil {g : sp_G} (hw : sp_wg g) (h : g.2.2.2 = []) : mk_S g 8 [] 0 ≤ 1760 := by
  have := rm_mkS0 hw (fun ⟨q, q1, _⟩ => by rw [h] at q1; cases q1) 8 0
  omega
theorem RI_12 {A : rw_Ad} {σ : sp_St} {R : rw_S} {h : ax_H} (hR : RI A σ R h) {v : Nat} (hs : σ.2.2 = some v) : R.1 12 = 1 ∧ v < (po_T σ).length := by
  have := hR.2.2.2.2
  rw [hs] at this
  exact ⟨this.2.2.2, this.1⟩
theorem pS_none {σ : sp_St} (R : rw_S) (hs : σ.2.2 = none) : pS σ R ≤ 13663 := by
  unfold pS pw_S
  rw [hs]
  split
  · split <;> omega
  · exact Nat.zero_le _
theorem pC_none {σ : sp_St} (R : rw_S) (hs : σ.2.2 = none) : pC σ R ≤ 1352 := by
  unfold pC pw_C
  rw [hs]
  split
  · split <;> omega
  · exact Nat.zero_le _
theorem pS_sel {σ : sp_St} {R : rw_S} (h12 : R.1 12 = 1) : pS σ R = pw_S σ := if_neg (by rw [h12]; decide)
theorem pC_sel {σ : sp_St} {R : rw_S} (h12 : R.1 12 = 1) : pC σ R = pw_C σ := if_neg (by rw [h12]; decide)
/-- a call that makes nothing -/
theorem am_1 {A : rw_Ad} {σ σ' : sp_St} {R R' : rw_S} {h h' : ax_H} (hR : RI A σ R h) (hR' : RI A σ' R' h') (hs : σ'.2.2 = none ∨ (σ'.1 = σ.1 ∧ σ'.2.2 = σ.2.2)) {cc cs : Nat} (h1 : cc ≤ 2) (h2 : cs ≤ 9) : cc + pC σ' R' ≤ pC σ R + 1354 ∧ cs + pS σ' R' ≤ pS σ R + 13672 := by
  have hn : σ'.2.2 = none → cc + pC σ' R' ≤ pC σ R + 1354 ∧ cs + pS σ' R' ≤ pS σ R + 13672 := fun z => by
    have a := pS_none R' z
    have b := pC_none R' z
    omega
  rcases hs with z | ⟨z1, z2⟩
  · exact hn z
  · cases hv : σ.2.2 with
    | none => exact hn (z2.trans hv)
    | some v =>
      have r1 := (RI_12 hR hv).1
      have r2 := (RI_12 hR' (z2.trans hv)).1
      have e1 : pw_S σ' = pw_S σ := by unfold pw_S po_T; rw [z1, z2]
      have e2 : pw_C σ' = pw_C σ := by unfold pw_C po_T; rw [z1, z2]
      rw [pS_sel r1, pS_sel r2, pC_sel r1, pC_sel r2, e1, e2]
      omega
theorem am_3 {A : rw_Ad} {σ : sp_St} {R R' : rw_S} {h h' : ax_H} (hk : rm_ok σ.1) (hR : RI A σ R h) (hR' : RI A σ R' h') : 1 + lw_fC σ + pC σ R' ≤ pC σ R + 1354 ∧ 6 + lw_fS σ + pS σ R' ≤ pS σ R + 13672 := by
  cases hv : σ.2.2 with
  | none =>
    have a := pS_none R' hv
    have b := pC_none R' hv
    have e1 : lw_fC σ = 0 := by unfold lw_fC; rw [hv]
    have e2 : lw_fS σ = 0 := by unfold lw_fS; rw [hv]
    omega
  | some v =>
    obtain ⟨r1, r3⟩ := RI_12 hR hv
    have r2 := (RI_12 hR' hv).1
    obtain ⟨k1, k2, -⟩ := hk v r3
    have e1 : lw_fC σ = fr_C (sp_tab σ.1).1 v := by unfold lw_fC; rw [hv]; rfl
    have e2 : lw_fS σ = fr_S (sp_tab σ.1).1 v := by unfold lw_fS; rw [hv]; rfl
    rw [pS_sel r1, pS_sel r2, pC_sel r1, pC_sel r2]
    omega
theorem am_4 {A : rw_Ad} {σ σ' : sp_St} {R R' : rw_S} {h h' : ax_H} {w : Bool} (hk : rm_ok σ.1) (hR : RI A σ R h) (hR' : RI A σ' R' h') (hg : σ'.1 = σ.1) (hs : w = false → σ'.2.2 = σ.2.2) (h12 : w = true → R'.1 12 = 1) : 1 + rw_bC w R σ.1 + pC σ' R' ≤ pC σ R + 1354 ∧ 6 + rw_bS w R σ.1 + pS σ' R' ≤ pS σ R + 13672 := by
  cases w with
  | false => exact am_1 hR hR' (Or.inr ⟨hg, hs rfl⟩) (Nat.le_of_ble_eq_true rfl) (Nat.le_of_ble_eq_true rfl)
  | true =>
    have r2 := h12 rfl
    rw [pS_sel r2, pC_sel r2]
    have eC : rw_bC true R σ.1 = rm_C R σ.1 := rfl
    have eS : rw_bS true R σ.1 = rm_S R σ.1 := rfl
    rw [eC, eS]
    have hT : po_T σ' = (sp_tab σ.1).1 := by unfold po_T; rw [hg]
    by_cases h0 : R.1 12 = 0
    · have e1 : rm_C R σ.1 = mk_C σ.1 8 [] 0 := if_pos h0
      have e2 : rm_S R σ.1 = mk_S σ.1 8 [] 0 := if_pos h0
      have b1 := rm_C_le hR.1 R
      have b2 := rm_S_le hR.1 R
      have p1 : pC σ R = (if σ.1.2.2.2 = [] then 0 else 1352) := if_pos h0
      have p2 : pS σ R = (if σ.1.2.2.2 = [] then 0 else 13663) := if_pos h0
      rw [p1, p2]
      cases hv : σ'.2.2 with
      | none =>
        have a1 : pw_S σ' = 0 := by unfold pw_S; rw [hv]
        have a2 : pw_C σ' = 0 := by unfold pw_C; rw [hv]
        rw [a1, a2]
        by_cases hc : σ.1.2.2.2 = []
        · rw [if_pos hc, if_pos hc]
          have := mkS_nil hR.1 hc
          omega
        · rw [if_neg hc, if_neg hc]
          omega
      | some v =>
        have hvl : v < (sp_tab σ.1).1.length := by have := (RI_12 hR' hv).2; rw [hT] at this; exact this
        have hc := tb_cons hR.1 hvl
        rw [if_neg hc, if_neg hc]
        obtain ⟨k1, k2, k3, k4, k5, k6⟩ := hk v hvl
        have a1 : pw_S σ' = dn_v (fr_S (sp_tab σ.1).1) (sp_tab σ.1).1 v - 13666 := by unfold pw_S; rw [hv, hT]
        have a2 : pw_C σ' = dn_v (fr_C (sp_tab σ.1).1) (sp_tab σ.1).1 v - 1353 := by unfold pw_C; rw [hv, hT]
        rw [a1, a2, e1, e2]
        rw [e1] at b1
        rw [e2] at b2
        omega
    · have e1 : rm_C R σ.1 = 0 := if_neg h0
      have e2 : rm_S R σ.1 = 0 := if_neg h0
      rw [e1, e2]
      cases hv : σ'.2.2 with
      | none =>
        have a1 : pw_S σ' = 0 := by unfold pw_S; rw [hv]
        have a2 : pw_C σ' = 0 := by unfold pw_C; rw [hv]
        omega
      | some v =>
        have hvl : v < (sp_tab σ.1).1.length := by have := (RI_12 hR' hv).2; rw [hT] at this; exact this
        obtain ⟨k1, k2, k3, k4, k5, k6⟩ := hk v hvl
        have a1 : pw_S σ' = dn_v (fr_S (sp_tab σ.1).1) (sp_tab σ.1).1 v - 13666 := by unfold pw_S; rw [hv, hT]
        have a2 : pw_C σ' = dn_v (fr_C (sp_tab σ.1).1) (sp_tab σ.1).1 v - 1353 := by unfold pw_C; rw [hv, hT]
        rw [a1, a2]
        omega
theorem am_5 {A : rw_Ad} {σ : sp_St} {R R' : rw_S} {h h' : ax_H} (hk : rm_ok σ.1) (q : Int32) (hR : RI A σ R h) (hR' : RI A (po_reduce σ q).2 R' h') : 1 + lw_gC σ q + pC (po_reduce σ q).2 R' ≤ pC σ R + 1354 ∧ 6 + lw_gS σ q + pS (po_reduce σ q).2 R' ≤ pS σ R + 13672 := by
  cases hv : σ.2.2 with
  | none =>
    have e1 : lw_gC σ q = 0 := by unfold lw_gC; rw [hv]
    have e2 : lw_gS σ q = 0 := by unfold lw_gS; rw [hv]
    have e0 : (po_reduce σ q).2 = σ := by unfold po_reduce po_sel; rw [hv]
    rw [e1, e2]
    exact am_1 hR hR' (Or.inr (by rw [e0]; exact ⟨rfl, rfl⟩)) (by decide) (by decide)
  | some v =>
    obtain ⟨r1, r3⟩ := RI_12 hR hv
    have hwT : sp_wT (po_T σ) := (tb_ok hR.1).1
    have hs2 : sp_srt (po_T σ) := (tb_ok hR.1).2.1
    have g1 := go_S_F hwT hs2 q.toNatClampNeg 300 v r3
    have g2 := go_C_F hwT hs2 q.toNatClampNeg 300 v r3
    have g3 := go_sel hwT hs2 q.toNatClampNeg 300 v r3
    rw [pS_sel r1, pC_sel r1]
    have a1 : pw_S σ = dn_v (fr_S (po_T σ)) (po_T σ) v - 13666 := by unfold pw_S; rw [hv]
    have a2 : pw_C σ = dn_v (fr_C (po_T σ)) (po_T σ) v - 1353 := by unfold pw_C; rw [hv]
    rw [a1, a2]
    obtain ⟨k1, k2, k3, k4, k5, k6⟩ := hk v r3
    have k3 : dn_v (fr_S (po_T σ)) (po_T σ) v ≤ 27332 := k3
    have k5 : dn_v (fr_C (po_T σ)) (po_T σ) v ≤ 2706 := k5
    have hc1 := dn_c (T := po_T σ) (fr_S (po_T σ)) (po_go (po_T σ) q.toNatClampNeg 300 v).2
    have hc2 := dn_c (T := po_T σ) (fr_C (po_T σ)) (po_go (po_T σ) q.toNatClampNeg 300 v).2
    obtain ⟨m1, m2, -⟩ := hk _ g3
    have m1 : fr_S (po_T σ) (po_go (po_T σ) q.toNatClampNeg 300 v).2 ≤ 1000 := m1
    have m2 : fr_C (po_T σ) (po_go (po_T σ) q.toNatClampNeg 300 v).2 ≤ 100 := m2
    by_cases hq : q < 1 ∨ 5 < q
    · have e0 : (po_reduce σ q).2 = σ := by
        have : po_reduce σ q = ((2, 0), σ) := by unfold po_reduce po_sel; rw [hv]; exact if_pos hq
        rw [this]
      rw [e0]
      rw [e0] at hR'
      rw [pS_sel (RI_12 hR' hv).1, pC_sel (RI_12 hR' hv).1, a1, a2]
      have e1 : lw_gC σ q = 0 := by unfold lw_gC; rw [hv]; exact if_pos hq
      have e2 : lw_gS σ q = 0 := by unfold lw_gS; rw [hv]; exact if_pos hq
      omega
    · have e0 : (po_reduce σ q).2 = (σ.1, σ.2.1, some (po_go (po_T σ) q.toNatClampNeg 300 v).2) := by
        have : po_reduce σ q = ((0, nI (po_go (po_T σ) q.toNatClampNeg 300 v).1), (σ.1, σ.2.1, some (po_go (po_T σ) q.toNatClampNeg 300 v).2)) := by unfold po_reduce po_sel; rw [hv]; exact if_neg hq
        rw [this]
      rw [e0]
      rw [e0] at hR'
      have r2 := (RI_12 hR' rfl).1
      rw [pS_sel r2, pC_sel r2]
      have b1 : pw_S (σ.1, σ.2.1, some (po_go (po_T σ) q.toNatClampNeg 300 v).2) = dn_v (fr_S (po_T σ)) (po_T σ) (po_go (po_T σ) q.toNatClampNeg 300 v).2 - 13666 := rfl
      have b2 : pw_C (σ.1, σ.2.1, some (po_go (po_T σ) q.toNatClampNeg 300 v).2) = dn_v (fr_C (po_T σ)) (po_T σ) (po_go (po_T σ) q.toNatClampNeg 300 v).2 - 1353 := rfl
      rw [b1, b2]
      have e1 : lw_gC σ q = go_C (po_T σ) q.toNatClampNeg 300 v := by unfold lw_gC; rw [hv]; exact if_neg hq
      have e2 : lw_gS σ q = go_S (po_T σ) q.toNatClampNeg 300 v := by unfold lw_gS; rw [hv]; exact if_neg hq
      omega
