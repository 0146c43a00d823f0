/-! ===== the reference: reduce whole; read ===== -/
theorem RI_told {A : rw_Ad} {σ : sp_St} {R R' : rw_S} {h : ax_H} (hR : RI A σ R h) (h8 : R'.1 8 = 0) (hf : ∀ i, i ≠ 0 → i ≠ 8 → i ≠ 20 → i ≠ 21 → R'.1 i = R.1 i) (h2 : R'.2 = R.2) : RI A (σ.1, [], σ.2.2) R' h := by
  obtain ⟨r1, r2, r3, r4, r5⟩ := hR
  have e12 := hf 12 (by decide) (by decide) (by decide) (by decide)
  refine ⟨r1, ⟨(hf 1 (by decide) (by decide) (by decide) (by decide)).trans r2.1, (hf 2 (by decide) (by decide) (by decide) (by decide)).trans r2.2.1, (hf 3 (by decide) (by decide) (by decide) (by decide)).trans r2.2.2.1, (hf 4 (by decide) (by decide) (by decide) (by decide)).trans r2.2.2.2.1, ?_⟩, ⟨h8, Nat.zero_le _, fun i a hi => by simp at hi, fun a ha => absurd ha List.not_mem_nil⟩, ?_, ?_⟩
  · rw [h2]; exact r2.2.2.2.2
  · rw [e12, hf 13 (by decide) (by decide) (by decide) (by decide)]
    refine r4.imp id (fun z => ⟨z.1, ?_, z.2.2⟩)
    refine ⟨(hf 14 (by decide) (by decide) (by decide) (by decide)).trans z.2.1.1, ?_, ?_⟩
    · rw [h2]; exact z.2.1.2.1
    · rw [h2]; exact z.2.1.2.2
  · rw [e12, hf 10 (by decide) (by decide) (by decide) (by decide), hf 11 (by decide) (by decide) (by decide) (by decide)]
    exact r5
/-- a code that is read, of a size up to the horizon, is in the table -/
def sp_cp (g : sp_G) (T : List sp_E) (H : Nat) : Prop := ∀ (t : Nat) (L : List Nat) (p : sp_P), sp_look g 41 t L = some p → p.2 = [] → p.1.1 ≤ H → ∃ w, (sp_of T t).find? (fun x => decide (sp_cd T x = L)) = some w
section RP22
variable {G : ax_G} {A : rw_Ad}

set_option maxRecDepth 100000 in
set_option maxHeartbeats 4000000 in
theorem rb_reduce (hA : rw_nd A) (d : Nat) (R : rw_S) (h : ax_H) {σ : sp_St} (hR : RI A σ R h) (q : Int32) (hG : sp_gd (po_T σ) σ.1.1) {mc ms : Nat} (hb : ∀ v, σ.2.2 = some v → ¬ (q < 1 ∨ 5 < q) → go_C (po_T σ) q.toNatClampNeg 300 v ≤ mc ∧ go_S (po_T σ) q.toNatClampNeg 300 v ≤ ms) : AW G mX7_reduce (d + 48) mc ms (rb_Q A h (po_reduce σ q)) 0 [(0, .ref (A.1 0)), (1, .int q)] [] (rw_O A R h) 0 0 := by
  cases hs : σ.2.2 with
  | none =>
    rw [show po_reduce σ q = ((1, 0), σ) from by unfold po_reduce po_sel; rw [hs]]
    refine ax_aload_n dX7_reduce_0 rfl ?_
    refine ax_callV (b := (A.1 0)) (av := []) (rest := []) (mc' := 0) (ms' := 0) dX7_reduce_1 rfl lkX7_167 (rw_g0 hA) rfl (Nat.le_of_ble_eq_true rfl) (Nat.le_of_ble_eq_true rfl) (by omega) (by omega) (r_hasN hA _ R h hR hs) (fun E9 h9 q9 => by cases q9.1) (fun v9 h9 q9 => ?_)
    obtain ⟨e9, rfl⟩ := q9
    cases e9
    show AW G mX7_reduce (d + 48) mc ms _ 4 [(0, .ref (A.1 0)), (1, .int q)] [.int 0] (rw_O A (rw_setS R 0 1) h) 0 0
    refine ax_if_ne (tgt := 9) dX7_reduce_4 (by decide) (fun z => absurd rfl z) (fun _ => ?_)
    refine ax_iconst (v := 0) dX7_reduce_7 (by decide) ?_
    exact ax_iret (st := []) dX7_reduce_8 rfl rfl ⟨_, h, _, rfl, rfl, hx_rfl h, RI_s0 1 hR, rfl, fun z => Nat.noConfusion z⟩
  | some v =>
    obtain ⟨e, b, f, o1, o2, o3, o4, o5, o6, o7, o8, o9, o10, o11, o12, o13, o14, o15, o16, o17⟩ := rs_ok (RI_s0 0 hR) hs
    have e0 : po_reduce σ q = (if q < 1 ∨ 5 < q then ((2, 0), σ) else ((0, nI (po_go (po_T σ) q.toNatClampNeg 300 v).1), (σ.1, σ.2.1, some (po_go (po_T σ) q.toNatClampNeg 300 v).2))) := by unfold po_reduce po_sel; rw [hs]
    rw [e0]
    by_cases hkp : q < 1 ∨ 5 < q
    · rw [if_pos hkp]
      have hin : ¬ ((1 : Int32) ≤ q ∧ q ≤ 5) := fun z => in_15.mp z hkp
      refine ax_aload_n dX7_reduce_0 rfl ?_
      refine ax_callV (b := (A.1 0)) (av := []) (rest := []) (mc' := 0) (ms' := 0) dX7_reduce_1 rfl lkX7_167 (rw_g0 hA) rfl (Nat.le_of_ble_eq_true rfl) (Nat.le_of_ble_eq_true rfl) (by omega) (by omega) (r_hasY hA _ R h hR hs) (fun E9 h9 q9 => by cases q9.1) (fun v9 h9 q9 => ?_)
      obtain ⟨e9, rfl⟩ := q9
      cases e9
      show AW G mX7_reduce (d + 48) mc ms _ 4 [(0, .ref (A.1 0)), (1, .int q)] [.int 1] (rw_O A (rw_setS R 0 0) h) 0 0
      refine ax_if_ne (tgt := 9) dX7_reduce_4 (by decide) (fun _ => ?_) (fun z => absurd z (by decide))
      refine ax_iload_n dX7_reduce_9 rfl ?_
      refine ax_iconst (v := 1) dX7_reduce_10 (by decide) ?_
      refine ax_iconst (v := 5) dX7_reduce_11 (by decide) ?_
      refine ax_callS (av := [.int q, .int 1, .int 5]) (rest := []) (mc' := 0) (ms' := 0) dX7_reduce_12 rfl lkX7_58 rfl (Nat.le_of_ble_eq_true rfl) (Nat.le_of_ble_eq_true rfl) (by omega) (by omega) (r_isIn _ _ q 1 5) (fun E9 h9 q9 => by cases q9.1) (fun v9 h9 q9 => ?_)
      obtain ⟨e9, rfl⟩ := q9
      cases e9
      rw [if_neg hin]
      show AW G mX7_reduce (d + 48) mc ms _ 15 [(0, .ref (A.1 0)), (1, .int q)] [.int 0] (rw_O A (rw_setS R 0 0) h) 0 0
      refine ax_if_ne (tgt := 24) dX7_reduce_15 (by decide) (fun z => absurd rfl z) (fun _ => ?_)
      refine ax_aload_n dX7_reduce_18 rfl ?_
      refine ax_iconst (v := 2) dX7_reduce_19 (by decide) ?_
      refine ax_callV (b := (A.1 0)) (av := [.int 2]) (rest := []) (mc' := 0) (ms' := 0) dX7_reduce_20 rfl lkX7_72 (rw_g0 hA) rfl (Nat.le_of_ble_eq_true rfl) (Nat.le_of_ble_eq_true rfl) (by omega) (by omega) (r_fail hA _ (rw_setS R 0 0) h 2) (fun E9 h9 q9 => by cases q9.1) (fun v9 h9 q9 => ?_)
      obtain ⟨e9, rfl⟩ := q9
      cases e9
      show AW G mX7_reduce (d + 48) mc ms _ 23 [(0, .ref (A.1 0)), (1, .int q)] [.int 0] (rw_O A (rw_setS (rw_setS R 0 0) 0 2) h) 0 0
      exact ax_iret (st := []) dX7_reduce_23 rfl rfl ⟨_, h, _, rfl, rfl, hx_rfl h, RI_s0 2 (RI_s0 0 hR), rfl, fun z => Nat.noConfusion z⟩
    · rw [if_neg hkp]
      obtain ⟨hb1, hb2⟩ := hb v hs hkp
      have hin : (1 : Int32) ≤ q ∧ q ≤ 5 := in_15.mpr hkp
      obtain ⟨p, rfl, hp1, hp5⟩ := i_prp hkp
      rw [nI_clamp (by omega)] at hb1 hb2
      rw [nI_clamp (by omega)]
      have hsg : σ = (σ.1, σ.2.1, some v) := by rw [← hs]
      cases hcc : sp_cond p e.2.2 with
      | true =>
        have eg : po_go (po_T σ) p 300 v = (0, v) := if_pos (by rw [o15]; exact hcc)
        rw [eg]
        refine ax_aload_n dX7_reduce_0 rfl ?_
        refine ax_callV (b := (A.1 0)) (av := []) (rest := []) (mc' := 0) (ms' := 0) dX7_reduce_1 rfl lkX7_167 (rw_g0 hA) rfl (Nat.le_of_ble_eq_true rfl) (Nat.le_of_ble_eq_true rfl) (by omega) (by omega) (r_hasY hA _ R h hR hs) (fun E9 h9 q9 => by cases q9.1) (fun v9 h9 q9 => ?_)
        obtain ⟨e9, rfl⟩ := q9
        cases e9
        show AW G mX7_reduce (d + 48) mc ms _ 4 [(0, .ref (A.1 0)), (1, .int (nI p))] [.int 1] (rw_O A (rw_setS R 0 0) h) 0 0
        refine ax_if_ne (tgt := 9) dX7_reduce_4 (by decide) (fun _ => ?_) (fun z => absurd z (by decide))
        refine ax_iload_n dX7_reduce_9 rfl ?_
        refine ax_iconst (v := 1) dX7_reduce_10 (by decide) ?_
        refine ax_iconst (v := 5) dX7_reduce_11 (by decide) ?_
        refine ax_callS (av := [.int (nI p), .int 1, .int 5]) (rest := []) (mc' := 0) (ms' := 0) dX7_reduce_12 rfl lkX7_58 rfl (Nat.le_of_ble_eq_true rfl) (Nat.le_of_ble_eq_true rfl) (by omega) (by omega) (r_isIn _ _ (nI p) 1 5) (fun E9 h9 q9 => by cases q9.1) (fun v9 h9 q9 => ?_)
        obtain ⟨e9, rfl⟩ := q9
        cases e9
        rw [if_pos hin]
        show AW G mX7_reduce (d + 48) mc ms _ 15 [(0, .ref (A.1 0)), (1, .int (nI p))] [.int 1] (rw_O A (rw_setS R 0 0) h) 0 0
        refine ax_if_ne (tgt := 24) dX7_reduce_15 (by decide) (fun _ => ?_) (fun z => absurd z (by decide))
        refine ax_iconst (v := 0) dX7_reduce_24 (by decide) ?_
        refine ax_istore_n dX7_reduce_25 (by decide) ?_
        refine ax_sub (lv' := [(0, .ref (A.1 0)), (1, .int (nI p)), (2, .int 0)]) (fun _ z => z) ?_
        refine ax_aload_n dX7_reduce_26 rfl ?_
        refine ax_aload_n dX7_reduce_27 rfl ?_
        refine ax_callV (b := (A.1 0)) (av := []) (rest := [.ref (A.1 0)]) (mc' := 0) (ms' := 0) dX7_reduce_28 rfl lkX7_171 (rw_g0 hA) rfl (Nat.le_of_ble_eq_true rfl) (Nat.le_of_ble_eq_true rfl) (by omega) (by omega) (r_current hA _ (rw_setS R 0 0) h (RI_s0 0 hR) hs) (fun E9 h9 q9 => by cases q9.1) (fun v9 h9 q9 => ?_)
        obtain ⟨e9, rfl⟩ := q9
        cases e9
        show AW G mX7_reduce (d + 48) mc ms _ 31 [(0, .ref (A.1 0)), (1, .int (nI p)), (2, .int 0)] [.int (nI v), .ref (A.1 0)] (rw_O A (rw_setS R 0 0) h) 0 0
        refine ax_iload_n dX7_reduce_31 rfl ?_
        refine ax_callV (b := (A.1 0)) (av := [.int (nI v), .int (nI p)]) (rest := []) (mc' := 0) (ms' := 0) dX7_reduce_32 rfl lkX7_146 (rw_g0 hA) rfl (Nat.le_of_ble_eq_true rfl) (Nat.le_of_ble_eq_true rfl) (by omega) (by omega) (r_trueOf hA hR.1 _ (by omega) (rw_setS R 0 0) h (RI_s0 0 hR).2.1 o1 (tb_ok hR.1).1 (sp_tab_ty hR.1) o4 hp5 (Q := fun r h1 => r = .inl (some (.int (if sp_cond p e.2.2 then 1 else 0))) ∧ ∃ s', lk_fr (rw_setS R 0 0).1 s' ∧ h1 = rw_O A (s', (rw_setS R 0 0).2) h) (fun s' z => ⟨rfl, s', z, rfl⟩)) (fun E9 h9 q9 => by cases q9.1) (fun v9 h9 q9 => ?_)
        obtain ⟨e9, s1, fr, rfl⟩ := q9
        rw [hcc] at e9
        cases e9
        have hRs : RI A σ (s1, R.2) h := RI_fx (lk_f2_fx ⟨fr, rfl⟩) (RI_s0 0 hR)
        have h0s : s1 0 = 0 := (fr 0 (by decide) (by decide)).trans rfl
        show AW G mX7_reduce (d + 48) mc ms _ 35 [(0, .ref (A.1 0)), (1, .int (nI p)), (2, .int 0)] [.int 1] (rw_O A (s1, R.2) h) 0 0
        refine ax_if_ne (tgt := 42) dX7_reduce_35 (by decide) (fun _ => ?_) (fun z => absurd z (by decide))
        refine ax_iconst (v := 0) dX7_reduce_42 (by decide) ?_
        refine ax_istore_n dX7_reduce_43 (by decide) ?_
        refine ax_sub (lv' := [(0, .ref (A.1 0)), (1, .int (nI p)), (2, .int 0), (3, .int 0)]) (fun _ z => z) ?_
        refine ax_iload_n dX7_reduce_44 rfl ?_
        refine ax_if_eq (tgt := 137) dX7_reduce_45 (by decide) (fun _ => ?_) (fun z => absurd rfl z)
        refine ax_iload_n dX7_reduce_137 rfl ?_
        exact ax_iret (st := []) dX7_reduce_138 rfl rfl ⟨(s1, R.2), h, _, rfl, rfl, hx_rfl h, hsg ▸ hRs, h0s, fun _ => rfl⟩
      | false =>
        refine ax_aload_n dX7_reduce_0 rfl ?_
        refine ax_callV (b := (A.1 0)) (av := []) (rest := []) (mc' := 0) (ms' := 0) dX7_reduce_1 rfl lkX7_167 (rw_g0 hA) rfl (Nat.le_of_ble_eq_true rfl) (Nat.le_of_ble_eq_true rfl) (by omega) (by omega) (r_hasY hA _ R h hR hs) (fun E9 h9 q9 => by cases q9.1) (fun v9 h9 q9 => ?_)
        obtain ⟨e9, rfl⟩ := q9
        cases e9
        show AW G mX7_reduce (d + 48) mc ms _ 4 [(0, .ref (A.1 0)), (1, .int (nI p))] [.int 1] (rw_O A (rw_setS R 0 0) h) 0 0
        refine ax_if_ne (tgt := 9) dX7_reduce_4 (by decide) (fun _ => ?_) (fun z => absurd z (by decide))
        refine ax_iload_n dX7_reduce_9 rfl ?_
        refine ax_iconst (v := 1) dX7_reduce_10 (by decide) ?_
        refine ax_iconst (v := 5) dX7_reduce_11 (by decide) ?_
        refine ax_callS (av := [.int (nI p), .int 1, .int 5]) (rest := []) (mc' := 0) (ms' := 0) dX7_reduce_12 rfl lkX7_58 rfl (Nat.le_of_ble_eq_true rfl) (Nat.le_of_ble_eq_true rfl) (by omega) (by omega) (r_isIn _ _ (nI p) 1 5) (fun E9 h9 q9 => by cases q9.1) (fun v9 h9 q9 => ?_)
        obtain ⟨e9, rfl⟩ := q9
        cases e9
        rw [if_pos hin]
        show AW G mX7_reduce (d + 48) mc ms _ 15 [(0, .ref (A.1 0)), (1, .int (nI p))] [.int 1] (rw_O A (rw_setS R 0 0) h) 0 0
        refine ax_if_ne (tgt := 24) dX7_reduce_15 (by decide) (fun _ => ?_) (fun z => absurd z (by decide))
        refine ax_iconst (v := 0) dX7_reduce_24 (by decide) ?_
        refine ax_istore_n dX7_reduce_25 (by decide) ?_
        refine ax_sub (lv' := [(0, .ref (A.1 0)), (1, .int (nI p)), (2, .int 0)]) (fun _ z => z) ?_
        refine ax_aload_n dX7_reduce_26 rfl ?_
        refine ax_aload_n dX7_reduce_27 rfl ?_
        refine ax_callV (b := (A.1 0)) (av := []) (rest := [.ref (A.1 0)]) (mc' := 0) (ms' := 0) dX7_reduce_28 rfl lkX7_171 (rw_g0 hA) rfl (Nat.le_of_ble_eq_true rfl) (Nat.le_of_ble_eq_true rfl) (by omega) (by omega) (r_current hA _ (rw_setS R 0 0) h (RI_s0 0 hR) hs) (fun E9 h9 q9 => by cases q9.1) (fun v9 h9 q9 => ?_)
        obtain ⟨e9, rfl⟩ := q9
        cases e9
        show AW G mX7_reduce (d + 48) mc ms _ 31 [(0, .ref (A.1 0)), (1, .int (nI p)), (2, .int 0)] [.int (nI v), .ref (A.1 0)] (rw_O A (rw_setS R 0 0) h) 0 0
        refine ax_iload_n dX7_reduce_31 rfl ?_
        refine ax_callV (b := (A.1 0)) (av := [.int (nI v), .int (nI p)]) (rest := []) (mc' := 0) (ms' := 0) dX7_reduce_32 rfl lkX7_146 (rw_g0 hA) rfl (Nat.le_of_ble_eq_true rfl) (Nat.le_of_ble_eq_true rfl) (by omega) (by omega) (r_trueOf hA hR.1 _ (by omega) (rw_setS R 0 0) h (RI_s0 0 hR).2.1 o1 (tb_ok hR.1).1 (sp_tab_ty hR.1) o4 hp5 (Q := fun r h1 => r = .inl (some (.int (if sp_cond p e.2.2 then 1 else 0))) ∧ ∃ s', lk_fr (rw_setS R 0 0).1 s' ∧ h1 = rw_O A (s', (rw_setS R 0 0).2) h) (fun s' z => ⟨rfl, s', z, rfl⟩)) (fun E9 h9 q9 => by cases q9.1) (fun v9 h9 q9 => ?_)
        obtain ⟨e9, s1, fr, rfl⟩ := q9
        rw [hcc] at e9
        cases e9
        have hRs : RI A σ (s1, R.2) h := RI_fx (lk_f2_fx ⟨fr, rfl⟩) (RI_s0 0 hR)
        have h0s : s1 0 = 0 := (fr 0 (by decide) (by decide)).trans rfl
        show AW G mX7_reduce (d + 48) mc ms _ 35 [(0, .ref (A.1 0)), (1, .int (nI p)), (2, .int 0)] [.int 0] (rw_O A (s1, R.2) h) 0 0
        refine ax_if_ne (tgt := 42) dX7_reduce_35 (by decide) (fun z => absurd rfl z) (fun _ => ?_)
        refine ax_iconst (v := 1) dX7_reduce_38 (by decide) ?_
        refine ax_goto (tgt := 43) dX7_reduce_39 (by decide) ?_
        refine ax_istore_n dX7_reduce_43 (by decide) ?_
        refine ax_sub (lv' := [(0, .ref (A.1 0)), (1, .int (nI p)), (2, .int 0), (3, .int 1)]) (fun _ z => z) ?_
        have hRs2 : RI A (σ.1, σ.2.1, some v) (s1, R.2) h := by rw [← hsg]; exact hRs
        refine re_go hA d mc ms hG hp5 300 v 0 0 0 (s1, R.2) h hRs2 (by unfold po_unfit; rw [o15, hcc]; rfl) o9 h0s (by omega) (by omega) (fun R2 h2 k1 k2 k3 => ⟨R2, h2, _, rfl, rfl, k1, k2, k3, fun _ => by rw [Nat.zero_add]⟩)
set_option maxRecDepth 100000 in
set_option maxHeartbeats 4000000 in
theorem rb_read (hA : rw_nd A) (d : Nat) (R : rw_S) (h : ax_H) {σ : sp_St} (hR : RI A σ R h) (t : Int32) (hK : sp_cp σ.1 (po_T σ) (po_H σ)) : AW G mX7_read (d + 48) (rw_bC (po_wr σ t) R σ.1) (rw_bS (po_wr σ t) R σ.1) (rb_QW A h (po_read σ t) (po_wr σ t)) 0 [(0, .ref (A.1 0)), (1, .int t)] [] (rw_O A R h) 0 0 := by
  cases hk1 : po_isT σ t with
  | false =>
    rw [show po_read σ t = ((1, 0), σ) from if_pos hk1]
    refine ax_aload_n dX7_read_0 rfl ?_
    refine ax_iconst (v := 0) dX7_read_1 (by decide) ?_
    refine ax_put dX7_read_2 fpX7_52 (rw_g0 hA) rfl rfl (Nat.le_of_ble_eq_true rfl) ?_
    refine ax_eqh (rw_ps0 hA) ?_
    refine ax_aload_n dX7_read_5 rfl ?_
    refine ax_iload_n dX7_read_6 rfl ?_
    refine ax_callV (b := (A.1 0)) (av := [.int t]) (rest := []) (mc' := 0) (ms' := 0) dX7_read_7 rfl lkX7_76 (rw_g0 hA) rfl (Nat.le_of_ble_eq_true rfl) (Nat.le_of_ble_eq_true rfl) (by omega) (by omega) (r_isType hA _ (rw_setS R 0 0) h t (σ := σ) hR.2.1.2.2.1 hR.1.2.2.1) (fun E9 h9 q9 => by cases q9.1) (fun v9 h9 q9 => ?_)
    obtain ⟨e9, rfl⟩ := q9
    cases e9
    show AW G mX7_read (d + 48) (rw_bC (po_wr σ t) R σ.1) (rw_bS (po_wr σ t) R σ.1) _ 10 [(0, .ref (A.1 0)), (1, .int t)] [.int (if po_isT σ t then 1 else 0)] (rw_O A (rw_setS R 0 0) h) 0 0
    refine ax_if_ne (tgt := 19) dX7_read_10 (by decide) (fun z => absurd (by rw [hk1]; decide) z) (fun _ => ?_)
    refine ax_aload_n dX7_read_13 rfl ?_
    refine ax_iconst (v := 1) dX7_read_14 (by decide) ?_
    refine ax_callV (b := (A.1 0)) (av := [.int 1]) (rest := []) (mc' := 0) (ms' := 0) dX7_read_15 rfl lkX7_72 (rw_g0 hA) rfl (Nat.le_of_ble_eq_true rfl) (Nat.le_of_ble_eq_true rfl) (by omega) (by omega) (r_fail hA _ (rw_setS R 0 0) h 1) (fun E9 h9 q9 => by cases q9.1) (fun v9 h9 q9 => ?_)
    obtain ⟨e9, rfl⟩ := q9
    cases e9
    show AW G mX7_read (d + 48) (rw_bC (po_wr σ t) R σ.1) (rw_bS (po_wr σ t) R σ.1) _ 18 [(0, .ref (A.1 0)), (1, .int t)] [.int 0] (rw_O A (rw_setS (rw_setS R 0 0) 0 1) h) 0 0
    exact ax_iret (st := []) dX7_read_18 rfl rfl ⟨_, h, _, rfl, rfl, hx_rfl h, RI_s0 1 (RI_s0 0 hR), rfl, fun z => Nat.noConfusion z, fun z => by unfold po_wr at z; rw [hk1] at z; exact absurd z (by simp)⟩
  | true =>
    obtain ⟨tn, rfl, -, ht4⟩ := po_isT_nat hR.1 hk1
    have htc : (nI tn).toNatClampNeg = tn := nI_clamp (by omega)
    have r3 := hR.2.2.1
    have hg5 := hR.1.2.1
    have hH8 : po_H σ ≤ 8 := (tb_ok hR.1).2.2.2
    refine ax_aload_n dX7_read_0 rfl ?_
    refine ax_iconst (v := 0) dX7_read_1 (by decide) ?_
    refine ax_put dX7_read_2 fpX7_52 (rw_g0 hA) rfl rfl (Nat.le_of_ble_eq_true rfl) ?_
    refine ax_eqh (rw_ps0 hA) ?_
    refine ax_aload_n dX7_read_5 rfl ?_
    refine ax_iload_n dX7_read_6 rfl ?_
    refine ax_callV (b := (A.1 0)) (av := [.int (nI tn)]) (rest := []) (mc' := 0) (ms' := 0) dX7_read_7 rfl lkX7_76 (rw_g0 hA) rfl (Nat.le_of_ble_eq_true rfl) (Nat.le_of_ble_eq_true rfl) (by omega) (by omega) (r_isType hA _ (rw_setS R 0 0) h (nI tn) (σ := σ) hR.2.1.2.2.1 hR.1.2.2.1) (fun E9 h9 q9 => by cases q9.1) (fun v9 h9 q9 => ?_)
    obtain ⟨e9, rfl⟩ := q9
    cases e9
    show AW G mX7_read (d + 48) (rw_bC (po_wr σ (nI tn)) R σ.1) (rw_bS (po_wr σ (nI tn)) R σ.1) _ 10 [(0, .ref (A.1 0)), (1, .int (nI tn))] [.int (if po_isT σ (nI tn) then 1 else 0)] (rw_O A (rw_setS R 0 0) h) 0 0
    refine ax_if_ne (tgt := 19) dX7_read_10 (by decide) (fun _ => ?_) (fun z => absurd z (by rw [hk1]; decide))
    refine ax_aload_n dX7_read_19 rfl ?_
    refine ax_get (v := .int (nI σ.2.1.length)) dX7_read_20 fkX7_160 (rw_g0 hA) (congrArg (fun z => some (Value.int z)) (r3.1)) ?_
    refine ax_istore_n dX7_read_23 (by decide) ?_
    refine ax_sub (lv' := [(0, .ref (A.1 0)), (1, .int (nI tn)), (2, .int (nI σ.2.1.length))]) (fun _ z => z) ?_
    refine ax_aload_n dX7_read_24 rfl ?_
    refine ax_iconst (v := 0) dX7_read_25 (by decide) ?_
    refine ax_put dX7_read_26 fpX7_160 (rw_g0 hA) rfl rfl (Nat.le_of_ble_eq_true rfl) ?_
    refine ax_eqh (rw_ps8 hA) ?_
    refine ax_aload_n dX7_read_29 rfl ?_
    refine ax_aload_n dX7_read_30 rfl ?_
    refine ax_get (v := .ref (A.1 4)) dX7_read_31 fkX7_23 (rw_g0 hA) rfl ?_
    refine ax_iload_n dX7_read_34 rfl ?_
    refine ax_iconst (v := 0) dX7_read_35 (by decide) ?_
    refine ax_iload_n dX7_read_36 rfl ?_
    refine ax_callV (b := (A.1 0)) (av := [.ref (A.1 4), .int (nI σ.2.1.length), .int 0, .int (nI tn)]) (rest := []) (mc' := 0) (ms' := 0) dX7_read_37 rfl lkX7_83 (rw_g0 hA) rfl (Nat.le_of_ble_eq_true rfl) (Nat.le_of_ble_eq_true rfl) (by omega) (by omega) (r_look hA hR.1 R.2 h (L := σ.2.1) (N := 40) (f := R.2.1 4) ⟨r3.2.1, by decide, r3.2.2.1⟩ r3.2.2.2 (fun s => rw_g4 hA) 41 tn 0 (rw_setS (rw_setS R 0 0) 8 0).1 (by rw [List.drop_zero]; omega) (Nat.zero_le _) hR.2.1 ht4 _ (by omega)) (fun E9 h9 q9 => by obtain ⟨s1, -, -, (⟨e9, -⟩ | ⟨p, e9, -⟩)⟩ := q9 <;> cases e9) (fun v9 h9 q9 => ?_)
    obtain ⟨s1, rfl, fr, hres⟩ := q9
    have hRt : RI A (σ.1, [], σ.2.2) (s1, R.2) h := RI_told hR ((fr 8 (by decide) (by decide)).trans rfl) (fun i i0 i8 i20 i21 => (fr i i20 i21).trans ((pk_un i8).trans (pk_un i0))) rfl
    have h0s : s1 0 = 0 := (fr 0 (by decide) (by decide)).trans rfl
    have hMC : rm_C (s1, R.2) σ.1 = rm_C R σ.1 := by
      unfold rm_C; rw [show (s1, R.2).1 12 = R.1 12 from (fr 12 (by decide) (by decide)).trans rfl]
    have hMS : rm_S (s1, R.2) σ.1 = rm_S R σ.1 := by
      unfold rm_S; rw [show (s1, R.2).1 12 = R.1 12 from (fr 12 (by decide) (by decide)).trans rfl]
    rcases hres with ⟨e9, hno⟩ | ⟨p, e9, hp, h20, h21⟩
    · cases e9
      rw [List.drop_zero] at hno
      have e0 : po_read σ (nI tn) = ((0, -1), (σ.1, [], σ.2.2)) := by
        unfold po_read
        rw [if_neg (by rw [hk1]; decide), htc, hno]
      have hwr : po_wr σ (nI tn) = false := by unfold po_wr; rw [hk1, htc, hno]; rfl
      rw [e0]
      show AW G mX7_read (d + 48) (rw_bC (po_wr σ (nI tn)) R σ.1) (rw_bS (po_wr σ (nI tn)) R σ.1) _ 40 [(0, .ref (A.1 0)), (1, .int (nI tn)), (2, .int (nI σ.2.1.length))] [.int (-1)] (rw_O A (s1, R.2) h) 0 0
      refine ax_istore_n dX7_read_40 (by decide) ?_
      refine ax_sub (lv' := [(0, .ref (A.1 0)), (1, .int (nI tn)), (2, .int (nI σ.2.1.length)), (3, .int (-1))]) (fun _ z => z) ?_
      refine ax_aload_n dX7_read_41 rfl ?_
      refine ax_get (v := .int ((s1, R.2).1 20)) dX7_read_42 fkX7_87 (rw_g0 hA) rfl ?_
      refine ax_istore dX7_read_45 (by decide) ?_
      refine ax_sub (lv' := [(0, .ref (A.1 0)), (1, .int (nI tn)), (2, .int (nI σ.2.1.length)), (3, .int (-1)), (4, .int ((s1, R.2).1 20))]) (fun _ z => z) ?_
      refine ax_iload_n dX7_read_47 rfl ?_
      refine ax_iload_n dX7_read_48 rfl ?_
      refine ax_icmp_ne (tgt := 59) dX7_read_49 (by decide) (fun _ => ?_) (fun z => absurd z (fun z => nI_m1 (u := σ.2.1.length) (by omega) z.symm))
      refine ax_iconst (v := (-1)) dX7_read_59 (by decide) ?_
      exact ax_iret (st := []) dX7_read_60 rfl rfl ⟨(s1, R.2), h, _, rfl, rfl, hx_rfl h, hRt, h0s, fun _ => rfl, fun z => by rw [hwr] at z; cases z⟩
    · cases e9
      rw [List.drop_zero] at hp
      obtain ⟨hp1, hpk⟩ := sp_look_ok hg5 41 tn σ.2.1 p hp
      have hpl := sp_look_len hg5 hp
      have hsz : p.1.1 ≤ 40 := by
        obtain ⟨L1, hL1, hL2⟩ := hpk.2.2.2.2
        have := congrArg List.length hL1
        rw [List.length_append] at this
        have := r3.2.1
        omega
      show AW G mX7_read (d + 48) (rw_bC (po_wr σ (nI tn)) R σ.1) (rw_bS (po_wr σ (nI tn)) R σ.1) _ 40 [(0, .ref (A.1 0)), (1, .int (nI tn)), (2, .int (nI σ.2.1.length))] [.int (nI (σ.2.1.length - p.2.length))] (rw_O A (s1, R.2) h) 0 0
      by_cases hp2 : p.2 = []
      · have hend : σ.2.1.length - p.2.length = σ.2.1.length := by rw [hp2]; rfl
        rw [hend]
        by_cases hs8 : p.1.1 ≤ 8
        · have e0 : po_read σ (nI tn) = (if po_H σ < p.1.1 then ((2, 0), (σ.1, [], σ.2.2)) else match (sp_of (po_T σ) tn).find? (fun w => decide (sp_cd (po_T σ) w = σ.2.1)) with
              | some w => ((0, nI (sp_rk (po_T σ) w)), (σ.1, [], some w))
              | none => ((0, -1), (σ.1, [], σ.2.2))) := by
            unfold po_read
            rw [if_neg (by rw [hk1]; decide), htc, hp]
            exact if_pos ⟨hp2, hs8⟩
          obtain ⟨hbC, hbS⟩ := rw_bT (w := po_wr σ (nI tn)) (by unfold po_wr; rw [hk1, htc, hp]; exact decide_eq_true ⟨hp2, hs8⟩) R σ.1
          rw [e0]
          by_cases hH : po_H σ < p.1.1
          · rw [if_pos hH]
            refine ax_istore_n dX7_read_40 (by decide) ?_
            refine ax_sub (lv' := [(0, .ref (A.1 0)), (1, .int (nI tn)), (2, .int (nI σ.2.1.length)), (3, .int (nI σ.2.1.length))]) (fun _ z => z) ?_
            refine ax_aload_n dX7_read_41 rfl ?_
            refine ax_get (v := .int (nI p.1.1)) dX7_read_42 fkX7_87 (rw_g0 hA) (congrArg (fun z => some (Value.int z)) (h20)) ?_
            refine ax_istore dX7_read_45 (by decide) ?_
            refine ax_sub (lv' := [(0, .ref (A.1 0)), (1, .int (nI tn)), (2, .int (nI σ.2.1.length)), (3, .int (nI σ.2.1.length)), (4, .int (nI p.1.1))]) (fun _ z => z) ?_
            refine ax_iload_n dX7_read_47 rfl ?_
            refine ax_iload_n dX7_read_48 rfl ?_
            refine ax_icmp_ne (tgt := 59) dX7_read_49 (by decide) (fun z => absurd rfl z) (fun _ => ?_)
            refine ax_iload dX7_read_52 rfl ?_
            refine ax_bipush (v := 8) dX7_read_54 (by decide) ?_
            refine ax_icmp_le (tgt := 61) dX7_read_56 (by decide) (fun _ => ?_) (fun z => absurd (il_le p.1.1 8 hs8) z)
            refine ax_aload_n dX7_read_61 rfl ?_
            refine ax_callV (b := (A.1 0)) (av := []) (rest := []) (mc' := (rm_C (s1, R.2) σ.1)) (ms' := (rm_S (s1, R.2) σ.1)) dX7_read_62 rfl lkX7_137 (rw_g0 hA) rfl (Nat.le_of_ble_eq_true rfl) (Nat.le_of_ble_eq_true rfl) (by omega) (by omega) (r_mk hA _ (s1, R.2) h hRt (Q := fun r h9 => r = .inl none ∧ ∃ R' h', h9 = rw_O A R' h' ∧ RI A (σ.1, [], σ.2.2) R' h' ∧ rw_T A R' h' (po_T σ) ∧ R'.1 13 = nI (po_H σ) ∧ R'.1 12 = 1 ∧ rw_fm (s1, R.2) R' ∧ hx_le h h') (fun R' h' a b c d e f => ⟨rfl, R', h', rfl, a, b, c, d, e, f⟩)) (fun E9 h9 q9 => by cases q9.1) (fun v9 h9 q9 => ?_)
            obtain ⟨e9, R2, h2, rfl, m1, m2, m3, m4, m5, m6⟩ := q9
            cases e9
            have h02 : R2.1 0 = 0 := (m5.1 0 (by decide) (by decide) (by decide) (by decide) (by decide)).trans h0s
            show AW G mX7_read (d + 48) (rw_bC (po_wr σ (nI tn)) R σ.1) (rw_bS (po_wr σ (nI tn)) R σ.1) _ 65 [(0, .ref (A.1 0)), (1, .int (nI tn)), (2, .int (nI σ.2.1.length)), (3, .int (nI σ.2.1.length)), (4, .int (nI p.1.1))] [] (rw_O A R2 h2) (0 + (rm_C (s1, R.2) σ.1)) (0 + (rm_S (s1, R.2) σ.1))
            refine ax_iload dX7_read_65 rfl ?_
            refine ax_aload_n dX7_read_67 rfl ?_
            refine ax_get (v := .int (nI (po_H σ))) dX7_read_68 fkX7_130 (rw_g0 hA) (congrArg (fun z => some (Value.int z)) (m3)) ?_
            refine ax_icmp_le (tgt := 80) dX7_read_71 (by decide) (fun z => absurd z (il_nle p.1.1 (po_H σ) hH)) (fun _ => ?_)
            refine ax_aload_n dX7_read_74 rfl ?_
            refine ax_iconst (v := 2) dX7_read_75 (by decide) ?_
            refine ax_callV (b := (A.1 0)) (av := [.int 2]) (rest := []) (mc' := 0) (ms' := 0) dX7_read_76 rfl lkX7_72 (rw_g0 hA) rfl (Nat.le_of_ble_eq_true rfl) (Nat.le_of_ble_eq_true rfl) (by omega) (by omega) (r_fail hA _ R2 h2 2) (fun E9 h9 q9 => by cases q9.1) (fun v9 h9 q9 => ?_)
            obtain ⟨e9, rfl⟩ := q9
            cases e9
            show AW G mX7_read (d + 48) (rw_bC (po_wr σ (nI tn)) R σ.1) (rw_bS (po_wr σ (nI tn)) R σ.1) _ 79 [(0, .ref (A.1 0)), (1, .int (nI tn)), (2, .int (nI σ.2.1.length)), (3, .int (nI σ.2.1.length)), (4, .int (nI p.1.1))] [.int 0] (rw_O A (rw_setS R2 0 2) h2) (0 + (rm_C (s1, R.2) σ.1)) (0 + (rm_S (s1, R.2) σ.1))
            exact ax_iret (st := []) dX7_read_79 rfl rfl ⟨_, h2, _, rfl, rfl, m6, RI_s0 2 m1, rfl, fun z => Nat.noConfusion z, fun _ => m4⟩
          · rw [if_neg hH]
            obtain ⟨w, hw⟩ := hK tn σ.2.1 p hp hp2 (by omega)
            rw [hw]
            have hwm := List.mem_of_find?_eq_some hw
            obtain ⟨i, hi⟩ := List.getElem?_of_mem hwm
            obtain ⟨w1, w2, w3⟩ := sp_rk_of hi
            have hfi : ∀ (R2 : rw_S) (h2 : ax_H), rw_T A R2 h2 (po_T σ) → R2.1 12 = 1 → rw_fm (s1, R.2) R2 → AW G mX7_find (d + 45 + 2) 0 0 (fun r h1 => r = .inl (some (.int (nI (sp_rk (po_T σ) w)))) ∧ h1 = rw_O A R2 h2) 0 [(0, .ref (A.1 0)), (1, .int (nI tn)), (2, .ref (A.1 4)), (3, .int (nI σ.2.1.length))] [] (rw_O A R2 h2) 0 0 := by
              intro R2 h2 k1 k2 k3
              have := r_find (G := G) hA (d + 45) R2 h2 (N := 40) (f := R2.2.1 4) (L := σ.2.1) ⟨r3.2.1, by decide, by rw [k3.2 4 (by decide)]; exact r3.2.2.1⟩ (fun a ha => by have := r3.2.2.2 a ha; omega) (rw_g4 hA) k2 k1 (tb_ok hR.1).1 (fun v e0 h0 b hb => by have := cd_ent hR.1 (tb_ok hR.1).1 (sp_tab_ty hR.1) _ _ _ h0 (Nat.lt_succ_self _) b hb; omega) ht4
              have hf : fi_res (po_T σ) tn σ.2.1 = nI (sp_rk (po_T σ) w) := by unfold fi_res; rw [hw]
              rw [hf] at this
              exact this
            refine ax_istore_n dX7_read_40 (by decide) ?_
            refine ax_sub (lv' := [(0, .ref (A.1 0)), (1, .int (nI tn)), (2, .int (nI σ.2.1.length)), (3, .int (nI σ.2.1.length))]) (fun _ z => z) ?_
            refine ax_aload_n dX7_read_41 rfl ?_
            refine ax_get (v := .int (nI p.1.1)) dX7_read_42 fkX7_87 (rw_g0 hA) (congrArg (fun z => some (Value.int z)) (h20)) ?_
            refine ax_istore dX7_read_45 (by decide) ?_
            refine ax_sub (lv' := [(0, .ref (A.1 0)), (1, .int (nI tn)), (2, .int (nI σ.2.1.length)), (3, .int (nI σ.2.1.length)), (4, .int (nI p.1.1))]) (fun _ z => z) ?_
            refine ax_iload_n dX7_read_47 rfl ?_
            refine ax_iload_n dX7_read_48 rfl ?_
            refine ax_icmp_ne (tgt := 59) dX7_read_49 (by decide) (fun z => absurd rfl z) (fun _ => ?_)
            refine ax_iload dX7_read_52 rfl ?_
            refine ax_bipush (v := 8) dX7_read_54 (by decide) ?_
            refine ax_icmp_le (tgt := 61) dX7_read_56 (by decide) (fun _ => ?_) (fun z => absurd (il_le p.1.1 8 hs8) z)
            refine ax_aload_n dX7_read_61 rfl ?_
            refine ax_callV (b := (A.1 0)) (av := []) (rest := []) (mc' := (rm_C (s1, R.2) σ.1)) (ms' := (rm_S (s1, R.2) σ.1)) dX7_read_62 rfl lkX7_137 (rw_g0 hA) rfl (Nat.le_of_ble_eq_true rfl) (Nat.le_of_ble_eq_true rfl) (by omega) (by omega) (r_mk hA _ (s1, R.2) h hRt (Q := fun r h9 => r = .inl none ∧ ∃ R' h', h9 = rw_O A R' h' ∧ RI A (σ.1, [], σ.2.2) R' h' ∧ rw_T A R' h' (po_T σ) ∧ R'.1 13 = nI (po_H σ) ∧ R'.1 12 = 1 ∧ rw_fm (s1, R.2) R' ∧ hx_le h h') (fun R' h' a b c d e f => ⟨rfl, R', h', rfl, a, b, c, d, e, f⟩)) (fun E9 h9 q9 => by cases q9.1) (fun v9 h9 q9 => ?_)
            obtain ⟨e9, R2, h2, rfl, m1, m2, m3, m4, m5, m6⟩ := q9
            cases e9
            have h02 : R2.1 0 = 0 := (m5.1 0 (by decide) (by decide) (by decide) (by decide) (by decide)).trans h0s
            show AW G mX7_read (d + 48) (rw_bC (po_wr σ (nI tn)) R σ.1) (rw_bS (po_wr σ (nI tn)) R σ.1) _ 65 [(0, .ref (A.1 0)), (1, .int (nI tn)), (2, .int (nI σ.2.1.length)), (3, .int (nI σ.2.1.length)), (4, .int (nI p.1.1))] [] (rw_O A R2 h2) (0 + (rm_C (s1, R.2) σ.1)) (0 + (rm_S (s1, R.2) σ.1))
            refine ax_iload dX7_read_65 rfl ?_
            refine ax_aload_n dX7_read_67 rfl ?_
            refine ax_get (v := .int (nI (po_H σ))) dX7_read_68 fkX7_130 (rw_g0 hA) (congrArg (fun z => some (Value.int z)) (m3)) ?_
            refine ax_icmp_le (tgt := 80) dX7_read_71 (by decide) (fun _ => ?_) (fun z => absurd (il_le p.1.1 (po_H σ) (by omega)) z)
            refine ax_aload_n dX7_read_80 rfl ?_
            refine ax_iload_n dX7_read_81 rfl ?_
            refine ax_aload_n dX7_read_82 rfl ?_
            refine ax_iload_n dX7_read_83 rfl ?_
            refine ax_aload_n dX7_read_84 rfl ?_
            refine ax_get (v := .ref (A.1 4)) dX7_read_85 fkX7_23 (rw_g0 hA) rfl ?_
            refine ax_iload_n dX7_read_88 rfl ?_
            refine ax_callV (b := (A.1 0)) (av := [.int (nI tn), .ref (A.1 4), .int (nI σ.2.1.length)]) (rest := [.int (nI tn), .ref (A.1 0)]) (mc' := 0) (ms' := 0) dX7_read_89 rfl lkX7_163 (rw_g0 hA) rfl (Nat.le_of_ble_eq_true rfl) (Nat.le_of_ble_eq_true rfl) (by omega) (by omega) (hfi R2 h2 m2 m4 m5) (fun E9 h9 q9 => by cases q9.1) (fun v9 h9 q9 => ?_)
            obtain ⟨e9, rfl⟩ := q9
            cases e9
            show AW G mX7_read (d + 48) (rw_bC (po_wr σ (nI tn)) R σ.1) (rw_bS (po_wr σ (nI tn)) R σ.1) _ 92 [(0, .ref (A.1 0)), (1, .int (nI tn)), (2, .int (nI σ.2.1.length)), (3, .int (nI σ.2.1.length)), (4, .int (nI p.1.1))] [.int (nI (sp_rk (po_T σ) w)), .int (nI tn), .ref (A.1 0)] (rw_O A R2 h2) (0 + (rm_C (s1, R.2) σ.1)) (0 + (rm_S (s1, R.2) σ.1))
            refine ax_callV (b := (A.1 0)) (av := [.int (nI tn), .int (nI (sp_rk (po_T σ) w))]) (rest := []) (mc' := 0) (ms' := 0) dX7_read_92 rfl lkX7_152 (rw_g0 hA) rfl (Nat.le_of_ble_eq_true rfl) (Nat.le_of_ble_eq_true rfl) (by omega) (by omega) (r_choose hA _ R2 h2 (nI tn) (nI (sp_rk (po_T σ) w))) (fun E9 h9 q9 => by cases q9.1) (fun v9 h9 q9 => ?_)
            obtain ⟨e9, rfl⟩ := q9
            cases e9
            show AW G mX7_read (d + 48) (rw_bC (po_wr σ (nI tn)) R σ.1) (rw_bS (po_wr σ (nI tn)) R σ.1) _ 95 [(0, .ref (A.1 0)), (1, .int (nI tn)), (2, .int (nI σ.2.1.length)), (3, .int (nI σ.2.1.length)), (4, .int (nI p.1.1))] [] (rw_O A (rw_setS (rw_setS R2 10 (nI tn)) 11 (nI (sp_rk (po_T σ) w))) h2) (0 + (rm_C (s1, R.2) σ.1)) (0 + (rm_S (s1, R.2) σ.1))
            refine ax_aload_n dX7_read_95 rfl ?_
            refine ax_get (v := .int ((rw_setS (rw_setS R2 10 (nI tn)) 11 (nI (sp_rk (po_T σ) w))).1 11)) dX7_read_96 fkX7_149 (rw_g0 hA) rfl ?_
            have hsel := RI_sel m1 m4 w1
            rw [show po_T (σ.1, [], σ.2.2) = po_T σ from rfl, w2] at hsel
            exact ax_iret (st := []) dX7_read_99 rfl rfl ⟨_, h2, _, rfl, rfl, m6, hsel, h02, fun _ => rfl, fun _ => m4⟩
        · have e0 : po_read σ (nI tn) = ((0, -1), (σ.1, [], σ.2.2)) := by
            unfold po_read
            rw [if_neg (by rw [hk1]; decide), htc, hp]
            exact if_neg (fun z => hs8 z.2)
          have hwr : po_wr σ (nI tn) = false := by unfold po_wr; rw [hk1, htc, hp]; exact decide_eq_false (fun z => hs8 z.2)
          rw [e0]
          refine ax_istore_n dX7_read_40 (by decide) ?_
          refine ax_sub (lv' := [(0, .ref (A.1 0)), (1, .int (nI tn)), (2, .int (nI σ.2.1.length)), (3, .int (nI σ.2.1.length))]) (fun _ z => z) ?_
          refine ax_aload_n dX7_read_41 rfl ?_
          refine ax_get (v := .int (nI p.1.1)) dX7_read_42 fkX7_87 (rw_g0 hA) (congrArg (fun z => some (Value.int z)) (h20)) ?_
          refine ax_istore dX7_read_45 (by decide) ?_
          refine ax_sub (lv' := [(0, .ref (A.1 0)), (1, .int (nI tn)), (2, .int (nI σ.2.1.length)), (3, .int (nI σ.2.1.length)), (4, .int (nI p.1.1))]) (fun _ z => z) ?_
          refine ax_iload_n dX7_read_47 rfl ?_
          refine ax_iload_n dX7_read_48 rfl ?_
          refine ax_icmp_ne (tgt := 59) dX7_read_49 (by decide) (fun z => absurd rfl z) (fun _ => ?_)
          refine ax_iload dX7_read_52 rfl ?_
          refine ax_bipush (v := 8) dX7_read_54 (by decide) ?_
          refine ax_icmp_le (tgt := 61) dX7_read_56 (by decide) (fun z => absurd z (il_nle p.1.1 8 (by omega))) (fun _ => ?_)
          refine ax_iconst (v := (-1)) dX7_read_59 (by decide) ?_
          exact ax_iret (st := []) dX7_read_60 rfl rfl ⟨(s1, R.2), h, _, rfl, rfl, hx_rfl h, hRt, h0s, fun _ => rfl, fun z => by rw [hwr] at z; cases z⟩
      · have e0 : po_read σ (nI tn) = ((0, -1), (σ.1, [], σ.2.2)) := by
          unfold po_read
          rw [if_neg (by rw [hk1]; decide), htc, hp]
          exact if_neg (fun z => hp2 z.1)
        have hwr : po_wr σ (nI tn) = false := by unfold po_wr; rw [hk1, htc, hp]; exact decide_eq_false (fun z => hp2 z.1)
        rw [e0]
        have hne : σ.2.1.length - p.2.length ≠ σ.2.1.length := by
          have : p.2.length ≠ 0 := fun z => hp2 (List.length_eq_zero_iff.mp z)
          omega
        refine ax_istore_n dX7_read_40 (by decide) ?_
        refine ax_sub (lv' := [(0, .ref (A.1 0)), (1, .int (nI tn)), (2, .int (nI σ.2.1.length)), (3, .int (nI (σ.2.1.length - p.2.length)))]) (fun _ z => z) ?_
        refine ax_aload_n dX7_read_41 rfl ?_
        refine ax_get (v := .int (nI p.1.1)) dX7_read_42 fkX7_87 (rw_g0 hA) (congrArg (fun z => some (Value.int z)) (h20)) ?_
        refine ax_istore dX7_read_45 (by decide) ?_
        refine ax_sub (lv' := [(0, .ref (A.1 0)), (1, .int (nI tn)), (2, .int (nI σ.2.1.length)), (3, .int (nI (σ.2.1.length - p.2.length))), (4, .int (nI p.1.1))]) (fun _ z => z) ?_
        refine ax_iload_n dX7_read_47 rfl ?_
        refine ax_iload_n dX7_read_48 rfl ?_
        refine ax_icmp_ne (tgt := 59) dX7_read_49 (by decide) (fun _ => ?_) (fun z => absurd z (il_ne _ _ hne))
        refine ax_iconst (v := (-1)) dX7_read_59 (by decide) ?_
        exact ax_iret (st := []) dX7_read_60 rfl rfl ⟨(s1, R.2), h, _, rfl, rfl, hx_rfl h, hRt, h0s, fun _ => rfl, fun z => by rw [hwr] at z; cases z⟩
end RP22
