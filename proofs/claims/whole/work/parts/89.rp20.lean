/-! ===== the reference: findReductions whole; reductionCount, reduction ===== -/
/-- the numbers that findReductions keeps -/
def rf_list (T : List sp_E) (lo v : Nat) : List Nat := rf_2 T (sp_tp T v) (sp_cd T v) lo ((sp_cd T v).length - 1) 1 ((sp_prs T (sp_tp T v) 8 v []).map (sp_rk T))
def fr_C (T : List sp_E) (v : Nat) : Nat := pr_C T (sp_tp T v) 8 v + fq_n (sp_cd T v) 1
def fr_S (T : List sp_E) (v : Nat) : Nat := pr_S T (sp_tp T v) 8 v + (sp_cd T v).length * fq_n (sp_cd T v) 1
/-- what is to be shown of a table: codes are told apart, and the reductions are the class's -/
def sp_gd (T : List sp_E) (lo : Nat) : Prop := sp_un T ∧ ∀ v, v < T.length → rf_list T lo v = (sp_red T v).map (sp_rk T)
theorem rf_ok_2 {T : List sp_E} (hwT : sp_wT T) (t : Nat) (L : List Nat) (lo : Nat) : ∀ (i a : Nat) (Rs : List Nat), rf_ok Rs → rf_ok (rf_2 T t L lo i a Rs) := by
  intro i
  induction i with
  | zero => intro a Rs h; exact h
  | succ i ih => intro a Rs h; exact ih _ _ (rf_ok_at hwT t L lo a h)
theorem rf_ok_list {g : sp_G} (hw : sp_wg g) {v : Nat} (hv : v < (sp_tab g).1.length) : rf_ok (rf_list (sp_tab g).1 g.1 v) := by
  obtain ⟨hwT, hs2, -⟩ := tb_ok hw
  have he : (sp_tab g).1[v]? = some (sp_tab g).1[v] := List.getElem?_eq_getElem hv
  have hIA := sp_prs_IA hwT hs2 (t := sp_tp (sp_tab g).1 v) (z := sp_sz (sp_tab g).1[v]) 8 v _ [] he (by omega) ⟨List.nodup_nil, fun x hx => absurd hx List.not_mem_nil⟩
  refine rf_ok_2 hwT _ _ _ _ _ _ ⟨hIA.1, fun r hr => ?_⟩
  obtain ⟨w, w1, rfl⟩ := List.mem_map.mp hr
  exact Nat.lt_of_lt_of_le (hIA.2 w w1).2.2 (Nat.le_trans (List.countP_le_length) hwT.1)
section RP20
variable {G : ax_G} {A : rw_Ad}

set_option maxRecDepth 100000 in
set_option maxHeartbeats 4000000 in
theorem r_fred (hA : rw_nd A) (d : Nat) (R : rw_S) (h : ax_H) {σ : sp_St} (hR : RI A σ R h) {v : Nat} (hs : σ.2.2 = some v) (hU : sp_un (po_T σ)) {Q : ax_P} (hQ : ∀ R' h', rr_fr R R' → hx_le h h' → rr_L (rf_list (po_T σ) σ.1.1 v) R' → Q (.inl none) (rw_O A R' h')) : AW G mX7_findReductions (d + 10) (fr_C (po_T σ) v) (fr_S (po_T σ) v) Q 0 [(0, .ref (A.1 0))] [] (rw_O A R h) 0 0 := by
  have hf0 : rr_fr R (rw_setS R 23 0) := ⟨fun i hi => pk_un hi, fun _ _ => rfl, rfl⟩
  have hR1 : RI A σ (rw_setS R 23 0) h := RI_fx (rr_fx hf0) hR
  obtain ⟨e, b, f, o1, o2, o3, o4, o5, o6, o7, o8, o9, o10, o11, o12, o13, o14, o15, o16, o17⟩ := rs_ok hR1 hs
  have hwT : sp_wT (po_T σ) := (tb_ok hR.1).1
  have hs2 : sp_srt (po_T σ) := (tb_ok hR.1).2.1
  have hty : sp_ty σ.1 (po_T σ) := sp_tab_ty hR.1
  have hcd := sp_cd_eq hwT o4
  have htp := o17
  refine ax_aload_n dX7_findReductions_0 rfl ?_
  refine ax_iconst (v := 0) dX7_findReductions_1 (by decide) ?_
  refine ax_put dX7_findReductions_2 fpX7_175 (rw_g0 hA) rfl rfl (Nat.le_of_ble_eq_true rfl) ?_
  refine ax_eqh (rw_ps23 hA) ?_
  refine ax_aload_n dX7_findReductions_5 rfl ?_
  refine ax_get (v := .ref (A.1 5)) dX7_findReductions_6 fkX7_30 (rw_g0 hA) rfl ?_
  refine ax_aload_n dX7_findReductions_9 rfl ?_
  refine ax_callV (b := (A.1 0)) (av := []) (rest := [.ref (A.1 5)]) (mc' := 0) (ms' := 0) dX7_findReductions_10 rfl lkX7_171 (rw_g0 hA) rfl (Nat.le_of_ble_eq_true rfl) (Nat.le_of_ble_eq_true rfl) (by omega) (by omega) (r_current hA _ (rw_setS R 23 0) h hR1 hs) (fun E9 h9 q9 => by cases q9.1) (fun v9 h9 q9 => ?_)
  obtain ⟨e9, rfl⟩ := q9
  cases e9
  show AW G mX7_findReductions (d + 10) (fr_C (po_T σ) v) (fr_S (po_T σ) v) _ 13 [(0, .ref (A.1 0))] [.int (nI v), .ref (A.1 5)] (rw_O A (rw_setS R 23 0) h) 0 0
  refine ax_raald dX7_findReductions_13 (rw_g5 hA) (nI_in o5 (by decide)) (w := b) (by rw [nI_clamp (by omega)]; exact o11) ?_
  refine ax_astore_n dX7_findReductions_14 (by decide) ?_
  refine ax_sub (lv' := [(0, .ref (A.1 0)), (1, .ref b)]) (fun _ z => z) ?_
  refine ax_iconst (v := 1) dX7_findReductions_15 (by decide) ?_
  refine ax_istore_n dX7_findReductions_16 (by decide) ?_
  refine ax_sub (lv' := [(0, .ref (A.1 0)), (1, .ref b), (2, .int 1)]) (fun _ z => z) ?_
  have hrow : rw_row A h b (sp_cd (po_T σ) v) := ⟨f, o12, o13⟩
  have hI : fr_I A σ.1 (po_T σ) e.1 (rw_setS R 23 0) h := ⟨hR1.2.1, o1, o2, o7⟩
  have hz8 : sp_sz e ≤ 8 := (hwT.2 v e o4).2.2.1
  have hsz1 : 1 ≤ sp_sz e := by unfold sp_sz; omega
  have eC : fr_C (po_T σ) v = pr_C (po_T σ) e.1 8 v + fq_n (sp_cd (po_T σ) v) 1 := by unfold fr_C; rw [htp]
  have eS : fr_S (po_T σ) v = pr_S (po_T σ) e.1 8 v + (sp_cd (po_T σ) v).length * fq_n (sp_cd (po_T σ) v) 1 := by unfold fr_S; rw [htp]
  have eL : rf_list (po_T σ) σ.1.1 v = rf_2 (po_T σ) e.1 (sp_cd (po_T σ) v) σ.1.1 ((sp_cd (po_T σ) v).length - 1) 1 ((sp_prs (po_T σ) e.1 8 v []).map (sp_rk (po_T σ))) := by unfold rf_list; rw [htp]
  rw [eC, eS]
  have hlen : (sp_cd (po_T σ) v).length = 1 + ((e.2.2.map (sp_pc (po_T σ))).flatten).length := by rw [hcd, List.length_cons]; omega
  have hIA0 : sp_IA (po_T σ) e.1 (sp_upto (po_T σ) e.1 (sp_sz e - 1)) [] := ⟨List.nodup_nil, fun x hx => absurd hx List.not_mem_nil⟩
  have hIA := sp_prs_IA hwT hs2 (t := e.1) (z := sp_sz e - 1) 8 v e [] o4 (by omega) hIA0
  refine fr_in hA hR.1 d _ _ hwT hty hs2 hU (t := e.1) (z := sp_sz e - 1) o6 (by omega) 8 v e o4 hz8 (by omega) 1 0 0 [] [] _ h ?_ hrow hI hIA0 ⟨rfl, Nat.zero_le _, fun i m hi => by simp at hi⟩ (by omega) (by omega) (fun R1 h1 m1 m2 m3 => ?_)
  · rw [hcd, List.append_nil]; rfl
  · obtain ⟨f1, hft1, hff1⟩ := rw_row_le m2 hrow
    refine fr_mid hA d _ _ R1 h1 hft1 (by omega) (by omega) ?_
    refine fq_loop hA hR.1 d _ _ hwT hty o6 (by omega) (cd_ent hR.1 hwT hty _ _ _ o4 (Nat.lt_succ_self _)) ((sp_cd (po_T σ) v).length - 1) 1 _ _ R1 h1 _ (by omega) (rw_row_le m2 hrow) (fr_I_mv hI m1 m2) ⟨hIA.1, fun r hr => ?_⟩ m3 (by omega) (by omega) (fun R2 h2 n1 n2 n3 => ?_)
    · obtain ⟨w, w1, rfl⟩ := List.mem_map.mp hr
      exact Nat.lt_of_lt_of_le (hIA.2 w w1).2.2 (Nat.le_trans (List.countP_le_length) hwT.1)
    · rw [eL] at hQ
      exact hQ R2 h2 (rr_fr_tr hf0 (rr_fr_tr m1 n1)) (hx_tr m2 n2) n3

set_option maxRecDepth 100000 in
set_option maxHeartbeats 4000000 in
theorem rb_redCount (hA : rw_nd A) (d : Nat) (R : rw_S) (h : ax_H) {σ : sp_St} (hR : RI A σ R h)  (hG : sp_gd (po_T σ) σ.1.1) {mc ms : Nat} (hb : ∀ v, σ.2.2 = some v → fr_C (po_T σ) v ≤ mc ∧ fr_S (po_T σ) v ≤ ms) : AW G mX7_reductionCount (d + 48) mc ms (rb_Q A h (po_redCount σ)) 0 [(0, .ref (A.1 0))] [] (rw_O A R h) 0 0 := by
  have hvl : ∀ v, σ.2.2 = some v → v < (po_T σ).length := fun v hv => by have := hR.2.2.2.2; rw [hv] at this; exact this.1
  cases hs : σ.2.2 with
  | none =>
    rw [show po_redCount σ = ((1, 0), σ) from by unfold po_redCount po_sel; rw [hs]]
    refine ax_aload_n dX7_reductionCount_0 rfl ?_
    refine ax_callV (b := (A.1 0)) (av := []) (rest := []) (mc' := 0) (ms' := 0) dX7_reductionCount_1 rfl lkX7_167 (rw_g0 hA) rfl (Nat.le_of_ble_eq_true rfl) (Nat.le_of_ble_eq_true rfl) (by omega) (by omega) (r_hasN hA _ R h hR hs) (fun E9 h9 q9 => by cases q9.1) (fun v9 h9 q9 => ?_)
    obtain ⟨e9, rfl⟩ := q9
    cases e9
    show AW G mX7_reductionCount (d + 48) mc ms _ 4 [(0, .ref (A.1 0))] [.int 0] (rw_O A (rw_setS R 0 1) h) 0 0
    refine ax_if_ne (tgt := 9) dX7_reductionCount_4 (by decide) (fun z => absurd rfl z) (fun _ => ?_)
    refine ax_iconst (v := 0) dX7_reductionCount_7 (by decide) ?_
    exact ax_iret (st := []) dX7_reductionCount_8 rfl rfl ⟨_, h, _, rfl, rfl, hx_rfl h, RI_s0 1 hR, rfl, fun z => Nat.noConfusion z⟩
  | some v =>
    obtain ⟨hb1, hb2⟩ := hb v hs
    have hred := hG.2 v (hvl v hs)
    have e0 : po_redCount σ = ((0, nI (sp_red (po_T σ) v).length), σ) := by unfold po_redCount po_sel; rw [hs]
    rw [e0]
    refine ax_aload_n dX7_reductionCount_0 rfl ?_
    refine ax_callV (b := (A.1 0)) (av := []) (rest := []) (mc' := 0) (ms' := 0) dX7_reductionCount_1 rfl lkX7_167 (rw_g0 hA) rfl (Nat.le_of_ble_eq_true rfl) (Nat.le_of_ble_eq_true rfl) (by omega) (by omega) (r_hasY hA _ R h hR hs) (fun E9 h9 q9 => by cases q9.1) (fun v9 h9 q9 => ?_)
    obtain ⟨e9, rfl⟩ := q9
    cases e9
    show AW G mX7_reductionCount (d + 48) mc ms _ 4 [(0, .ref (A.1 0))] [.int 1] (rw_O A (rw_setS R 0 0) h) 0 0
    refine ax_if_ne (tgt := 9) dX7_reductionCount_4 (by decide) (fun _ => ?_) (fun z => absurd z (by decide))
    refine ax_aload_n dX7_reductionCount_9 rfl ?_
    refine ax_callV (b := (A.1 0)) (av := []) (rest := []) (mc' := (fr_C (po_T σ) v)) (ms' := (fr_S (po_T σ) v)) dX7_reductionCount_10 rfl lkX7_182 (rw_g0 hA) rfl (Nat.le_of_ble_eq_true rfl) (Nat.le_of_ble_eq_true rfl) (by omega) (by omega) (r_fred hA _ (rw_setS R 0 0) h (RI_s0 0 hR) hs hG.1 (Q := fun r h9 => r = .inl none ∧ ∃ R' h', h9 = rw_O A R' h' ∧ rr_fr (rw_setS R 0 0) R' ∧ hx_le h h' ∧ rr_L (rf_list (po_T σ) σ.1.1 v) R') (fun R' h' a b c => ⟨rfl, R', h', rfl, a, b, c⟩)) (fun E9 h9 q9 => by cases q9.1) (fun v9 h9 q9 => ?_)
    obtain ⟨e9, R1, h1, rfl, m1, m2, m3⟩ := q9
    cases e9
    rw [hred] at m3
    have hRI := RI_fx (rr_fx m1) (RI_le m2 (RI_s0 0 hR))
    have h00 : R1.1 0 = nI 0 := m1.1 0 (by decide)
    show AW G mX7_reductionCount (d + 48) mc ms _ 13 [(0, .ref (A.1 0))] [] (rw_O A R1 h1) (0 + (fr_C (po_T σ) v)) (0 + (fr_S (po_T σ) v))
    refine ax_aload_n dX7_reductionCount_13 rfl ?_
    refine ax_get (v := .int (nI ((sp_red (po_T σ) v).map (sp_rk (po_T σ))).length)) dX7_reductionCount_14 fkX7_175 (rw_g0 hA) (congrArg (fun z => some (Value.int z)) (m3.1)) ?_
    exact ax_iret (st := []) dX7_reductionCount_17 rfl rfl ⟨R1, h1, _, rfl, rfl, m2, hRI, h00, fun _ => by rw [List.length_map]⟩
set_option maxRecDepth 100000 in
set_option maxHeartbeats 4000000 in
theorem rb_reduction (hA : rw_nd A) (d : Nat) (R : rw_S) (h : ax_H) {σ : sp_St} (hR : RI A σ R h) (i : Int32) (hG : sp_gd (po_T σ) σ.1.1) {mc ms : Nat} (hb : ∀ v, σ.2.2 = some v → fr_C (po_T σ) v ≤ mc ∧ fr_S (po_T σ) v ≤ ms) : AW G mX7_reduction (d + 48) mc ms (rb_Q A h (po_reduction σ i)) 0 [(0, .ref (A.1 0)), (1, .int i)] [] (rw_O A R h) 0 0 := by
  have hvl : ∀ v, σ.2.2 = some v → v < (po_T σ).length := fun v hv => by have := hR.2.2.2.2; rw [hv] at this; exact this.1
  cases hs : σ.2.2 with
  | none =>
    rw [show po_reduction σ i = ((1, 0), σ) from by unfold po_reduction po_sel; rw [hs]]
    refine ax_aload_n dX7_reduction_0 rfl ?_
    refine ax_callV (b := (A.1 0)) (av := []) (rest := []) (mc' := 0) (ms' := 0) dX7_reduction_1 rfl lkX7_167 (rw_g0 hA) rfl (Nat.le_of_ble_eq_true rfl) (Nat.le_of_ble_eq_true rfl) (by omega) (by omega) (r_hasN hA _ R h hR hs) (fun E9 h9 q9 => by cases q9.1) (fun v9 h9 q9 => ?_)
    obtain ⟨e9, rfl⟩ := q9
    cases e9
    show AW G mX7_reduction (d + 48) mc ms _ 4 [(0, .ref (A.1 0)), (1, .int i)] [.int 0] (rw_O A (rw_setS R 0 1) h) 0 0
    refine ax_if_ne (tgt := 9) dX7_reduction_4 (by decide) (fun z => absurd rfl z) (fun _ => ?_)
    refine ax_iconst (v := 0) dX7_reduction_7 (by decide) ?_
    exact ax_iret (st := []) dX7_reduction_8 rfl rfl ⟨_, h, _, rfl, rfl, hx_rfl h, RI_s0 1 hR, rfl, fun z => Nat.noConfusion z⟩
  | some v =>
    obtain ⟨hb1, hb2⟩ := hb v hs
    have hred := hG.2 v (hvl v hs)
    have e0 : po_reduction σ i = (if i < 0 ∨ nI (sp_red (po_T σ) v).length ≤ i then ((2, 0), σ) else ((0, nI (sp_rk (po_T σ) ((sp_red (po_T σ) v).getD i.toNatClampNeg 0))), σ)) := by unfold po_reduction po_sel; rw [hs]
    rw [e0]
    by_cases c0 : i < 0
    · rw [if_pos (Or.inl c0)]
      refine ax_aload_n dX7_reduction_0 rfl ?_
      refine ax_callV (b := (A.1 0)) (av := []) (rest := []) (mc' := 0) (ms' := 0) dX7_reduction_1 rfl lkX7_167 (rw_g0 hA) rfl (Nat.le_of_ble_eq_true rfl) (Nat.le_of_ble_eq_true rfl) (by omega) (by omega) (r_hasY hA _ R h hR hs) (fun E9 h9 q9 => by cases q9.1) (fun v9 h9 q9 => ?_)
      obtain ⟨e9, rfl⟩ := q9
      cases e9
      show AW G mX7_reduction (d + 48) mc ms _ 4 [(0, .ref (A.1 0)), (1, .int i)] [.int 1] (rw_O A (rw_setS R 0 0) h) 0 0
      refine ax_if_ne (tgt := 9) dX7_reduction_4 (by decide) (fun _ => ?_) (fun z => absurd z (by decide))
      refine ax_aload_n dX7_reduction_9 rfl ?_
      refine ax_callV (b := (A.1 0)) (av := []) (rest := []) (mc' := (fr_C (po_T σ) v)) (ms' := (fr_S (po_T σ) v)) dX7_reduction_10 rfl lkX7_182 (rw_g0 hA) rfl (Nat.le_of_ble_eq_true rfl) (Nat.le_of_ble_eq_true rfl) (by omega) (by omega) (r_fred hA _ (rw_setS R 0 0) h (RI_s0 0 hR) hs hG.1 (Q := fun r h9 => r = .inl none ∧ ∃ R' h', h9 = rw_O A R' h' ∧ rr_fr (rw_setS R 0 0) R' ∧ hx_le h h' ∧ rr_L (rf_list (po_T σ) σ.1.1 v) R') (fun R' h' a b c => ⟨rfl, R', h', rfl, a, b, c⟩)) (fun E9 h9 q9 => by cases q9.1) (fun v9 h9 q9 => ?_)
      obtain ⟨e9, R1, h1, rfl, m1, m2, m3⟩ := q9
      cases e9
      rw [hred] at m3
      have hRI := RI_fx (rr_fx m1) (RI_le m2 (RI_s0 0 hR))
      have h00 : R1.1 0 = nI 0 := m1.1 0 (by decide)
      show AW G mX7_reduction (d + 48) mc ms _ 13 [(0, .ref (A.1 0)), (1, .int i)] [] (rw_O A R1 h1) (0 + (fr_C (po_T σ) v)) (0 + (fr_S (po_T σ) v))
      refine ax_iload_n dX7_reduction_13 rfl ?_
      refine ax_if_lt (tgt := 34) dX7_reduction_14 (by decide) (fun _ => ?_) (fun z => absurd c0 z)
      refine ax_aload_n dX7_reduction_34 rfl ?_
      refine ax_iconst (v := 2) dX7_reduction_35 (by decide) ?_
      refine ax_callV (b := (A.1 0)) (av := [.int 2]) (rest := []) (mc' := 0) (ms' := 0) dX7_reduction_36 rfl lkX7_72 (rw_g0 hA) rfl (Nat.le_of_ble_eq_true rfl) (Nat.le_of_ble_eq_true rfl) (by omega) (by omega) (r_fail hA _ R1 h1 2) (fun E9 h9 q9 => by cases q9.1) (fun v9 h9 q9 => ?_)
      obtain ⟨e9, rfl⟩ := q9
      cases e9
      show AW G mX7_reduction (d + 48) mc ms _ 39 [(0, .ref (A.1 0)), (1, .int i)] [.int 0] (rw_O A (rw_setS R1 0 2) h1) (0 + (fr_C (po_T σ) v)) (0 + (fr_S (po_T σ) v))
      exact ax_iret (st := []) dX7_reduction_39 rfl rfl ⟨_, h1, _, rfl, rfl, m2, RI_s0 2 hRI, rfl, fun z => Nat.noConfusion z⟩
    · by_cases c1 : nI (sp_red (po_T σ) v).length ≤ i
      · rw [if_pos (Or.inr c1)]
        refine ax_aload_n dX7_reduction_0 rfl ?_
        refine ax_callV (b := (A.1 0)) (av := []) (rest := []) (mc' := 0) (ms' := 0) dX7_reduction_1 rfl lkX7_167 (rw_g0 hA) rfl (Nat.le_of_ble_eq_true rfl) (Nat.le_of_ble_eq_true rfl) (by omega) (by omega) (r_hasY hA _ R h hR hs) (fun E9 h9 q9 => by cases q9.1) (fun v9 h9 q9 => ?_)
        obtain ⟨e9, rfl⟩ := q9
        cases e9
        show AW G mX7_reduction (d + 48) mc ms _ 4 [(0, .ref (A.1 0)), (1, .int i)] [.int 1] (rw_O A (rw_setS R 0 0) h) 0 0
        refine ax_if_ne (tgt := 9) dX7_reduction_4 (by decide) (fun _ => ?_) (fun z => absurd z (by decide))
        refine ax_aload_n dX7_reduction_9 rfl ?_
        refine ax_callV (b := (A.1 0)) (av := []) (rest := []) (mc' := (fr_C (po_T σ) v)) (ms' := (fr_S (po_T σ) v)) dX7_reduction_10 rfl lkX7_182 (rw_g0 hA) rfl (Nat.le_of_ble_eq_true rfl) (Nat.le_of_ble_eq_true rfl) (by omega) (by omega) (r_fred hA _ (rw_setS R 0 0) h (RI_s0 0 hR) hs hG.1 (Q := fun r h9 => r = .inl none ∧ ∃ R' h', h9 = rw_O A R' h' ∧ rr_fr (rw_setS R 0 0) R' ∧ hx_le h h' ∧ rr_L (rf_list (po_T σ) σ.1.1 v) R') (fun R' h' a b c => ⟨rfl, R', h', rfl, a, b, c⟩)) (fun E9 h9 q9 => by cases q9.1) (fun v9 h9 q9 => ?_)
        obtain ⟨e9, R1, h1, rfl, m1, m2, m3⟩ := q9
        cases e9
        rw [hred] at m3
        have hRI := RI_fx (rr_fx m1) (RI_le m2 (RI_s0 0 hR))
        have h00 : R1.1 0 = nI 0 := m1.1 0 (by decide)
        show AW G mX7_reduction (d + 48) mc ms _ 13 [(0, .ref (A.1 0)), (1, .int i)] [] (rw_O A R1 h1) (0 + (fr_C (po_T σ) v)) (0 + (fr_S (po_T σ) v))
        refine ax_iload_n dX7_reduction_13 rfl ?_
        refine ax_if_lt (tgt := 34) dX7_reduction_14 (by decide) (fun z => absurd z c0) (fun _ => ?_)
        refine ax_iload_n dX7_reduction_17 rfl ?_
        refine ax_aload_n dX7_reduction_18 rfl ?_
        refine ax_get (v := .int (nI ((sp_red (po_T σ) v).map (sp_rk (po_T σ))).length)) dX7_reduction_19 fkX7_175 (rw_g0 hA) (congrArg (fun z => some (Value.int z)) (m3.1)) ?_
        refine ax_icmp_ge (tgt := 34) dX7_reduction_22 (by decide) (fun _ => ?_) (fun z => absurd (by rw [List.length_map]; exact c1) z)
        refine ax_aload_n dX7_reduction_34 rfl ?_
        refine ax_iconst (v := 2) dX7_reduction_35 (by decide) ?_
        refine ax_callV (b := (A.1 0)) (av := [.int 2]) (rest := []) (mc' := 0) (ms' := 0) dX7_reduction_36 rfl lkX7_72 (rw_g0 hA) rfl (Nat.le_of_ble_eq_true rfl) (Nat.le_of_ble_eq_true rfl) (by omega) (by omega) (r_fail hA _ R1 h1 2) (fun E9 h9 q9 => by cases q9.1) (fun v9 h9 q9 => ?_)
        obtain ⟨e9, rfl⟩ := q9
        cases e9
        show AW G mX7_reduction (d + 48) mc ms _ 39 [(0, .ref (A.1 0)), (1, .int i)] [.int 0] (rw_O A (rw_setS R1 0 2) h1) (0 + (fr_C (po_T σ) v)) (0 + (fr_S (po_T σ) v))
        exact ax_iret (st := []) dX7_reduction_39 rfl rfl ⟨_, h1, _, rfl, rfl, m2, RI_s0 2 hRI, rfl, fun z => Nat.noConfusion z⟩
      · rw [if_neg (fun z => z.elim c0 c1)]
        have hl3 : (sp_red (po_T σ) v).length ≤ 300 := by
          have : rf_ok (rf_list (po_T σ) σ.1.1 v) := rf_ok_list hR.1 (hvl v hs)
          rw [hred] at this
          have := rf_ok_len this
          rw [List.length_map] at this
          omega
        obtain ⟨k, hk31, rfl⟩ := nI_of c0
        have hkl : k < (sp_red (po_T σ) v).length := Nat.lt_of_not_le (fun z => c1 (il_le _ _ z))
        have hgk : ((sp_red (po_T σ) v).map (sp_rk (po_T σ)))[k]? = some (sp_rk (po_T σ) ((sp_red (po_T σ) v).getD k 0)) := by
          rw [List.getElem?_map, List.getElem?_eq_getElem hkl, List.getD_eq_getElem?_getD, List.getElem?_eq_getElem hkl]; rfl
        have hkc : (nI k).toNatClampNeg = k := nI_clamp hk31
        rw [hkc]
        refine ax_aload_n dX7_reduction_0 rfl ?_
        refine ax_callV (b := (A.1 0)) (av := []) (rest := []) (mc' := 0) (ms' := 0) dX7_reduction_1 rfl lkX7_167 (rw_g0 hA) rfl (Nat.le_of_ble_eq_true rfl) (Nat.le_of_ble_eq_true rfl) (by omega) (by omega) (r_hasY hA _ R h hR hs) (fun E9 h9 q9 => by cases q9.1) (fun v9 h9 q9 => ?_)
        obtain ⟨e9, rfl⟩ := q9
        cases e9
        show AW G mX7_reduction (d + 48) mc ms _ 4 [(0, .ref (A.1 0)), (1, .int (nI k))] [.int 1] (rw_O A (rw_setS R 0 0) h) 0 0
        refine ax_if_ne (tgt := 9) dX7_reduction_4 (by decide) (fun _ => ?_) (fun z => absurd z (by decide))
        refine ax_aload_n dX7_reduction_9 rfl ?_
        refine ax_callV (b := (A.1 0)) (av := []) (rest := []) (mc' := (fr_C (po_T σ) v)) (ms' := (fr_S (po_T σ) v)) dX7_reduction_10 rfl lkX7_182 (rw_g0 hA) rfl (Nat.le_of_ble_eq_true rfl) (Nat.le_of_ble_eq_true rfl) (by omega) (by omega) (r_fred hA _ (rw_setS R 0 0) h (RI_s0 0 hR) hs hG.1 (Q := fun r h9 => r = .inl none ∧ ∃ R' h', h9 = rw_O A R' h' ∧ rr_fr (rw_setS R 0 0) R' ∧ hx_le h h' ∧ rr_L (rf_list (po_T σ) σ.1.1 v) R') (fun R' h' a b c => ⟨rfl, R', h', rfl, a, b, c⟩)) (fun E9 h9 q9 => by cases q9.1) (fun v9 h9 q9 => ?_)
        obtain ⟨e9, R1, h1, rfl, m1, m2, m3⟩ := q9
        cases e9
        rw [hred] at m3
        have hRI := RI_fx (rr_fx m1) (RI_le m2 (RI_s0 0 hR))
        have h00 : R1.1 0 = nI 0 := m1.1 0 (by decide)
        show AW G mX7_reduction (d + 48) mc ms _ 13 [(0, .ref (A.1 0)), (1, .int (nI k))] [] (rw_O A R1 h1) (0 + (fr_C (po_T σ) v)) (0 + (fr_S (po_T σ) v))
        refine ax_iload_n dX7_reduction_13 rfl ?_
        refine ax_if_lt (tgt := 34) dX7_reduction_14 (by decide) (fun z => absurd z c0) (fun _ => ?_)
        refine ax_iload_n dX7_reduction_17 rfl ?_
        refine ax_aload_n dX7_reduction_18 rfl ?_
        refine ax_get (v := .int (nI ((sp_red (po_T σ) v).map (sp_rk (po_T σ))).length)) dX7_reduction_19 fkX7_175 (rw_g0 hA) (congrArg (fun z => some (Value.int z)) (m3.1)) ?_
        refine ax_icmp_ge (tgt := 34) dX7_reduction_22 (by decide) (fun z => absurd z (by rw [List.length_map]; exact c1)) (fun _ => ?_)
        refine ax_aload_n dX7_reduction_25 rfl ?_
        refine ax_get (v := .ref (A.1 11)) dX7_reduction_26 fkX7_49 (rw_g0 hA) rfl ?_
        refine ax_iload_n dX7_reduction_29 rfl ?_
        refine ax_ialdv (x := (nI (sp_rk (po_T σ) ((sp_red (po_T σ) v).getD k 0)))) dX7_reduction_30 (rw_g11 hA) (nI_in (by omega) (by decide)) (by rw [hkc]; exact (m3.2.2 k _ hgk).1) ?_
        refine ax_goto (tgt := 39) dX7_reduction_31 (by decide) ?_
        exact ax_iret (st := []) dX7_reduction_39 rfl rfl ⟨R1, h1, _, rfl, rfl, m2, hRI, h00, fun _ => rfl⟩
end RP20
