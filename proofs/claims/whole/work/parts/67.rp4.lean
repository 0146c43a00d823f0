/-! ===== the reference's public methods: the selected value ===== -/
theorem rs_ok {A : rw_Ad} {σ : sp_St} {R : rw_S} {h : ax_H} (hR : RI A σ R h) {v : Nat} (hs : σ.2.2 = some v) : ∃ (e : sp_E) (b : Nat) (f : Nat → Int32), rw_T A R h (po_T σ) ∧ R.1 12 = 1 ∧ R.1 13 = nI (po_H σ) ∧ (po_T σ)[v]? = some e ∧ v < 300 ∧ e.1 < 4 ∧ R.1 10 = nI e.1 ∧ R.1 11 = nI (sp_rk (po_T σ) v) ∧ sp_rk (po_T σ) v < 300 ∧ R.2.1 9 (300 * e.1 + sp_rk (po_T σ) v) = nI v ∧ R.2.2 v = some b ∧ rw_at A h b (.inl (0, (sp_cd (po_T σ) v).length, .inl f)) ∧ (∀ i x, (sp_cd (po_T σ) v)[i]? = some x → f i = nI x) ∧ R.2.1 7 v = nI (1 + sp_max (sp_hts e.2.2)) ∧ sp_xo (po_T σ) v = e.2.2 ∧ (sp_cd (po_T σ) v).length ≤ 32 ∧ sp_tp (po_T σ) v = e.1 := by
  obtain ⟨r1, r2, r3, r4, r5⟩ := hR
  rw [hs] at r5
  obtain ⟨s1, s2, s3, s4⟩ := r5
  obtain ⟨z1, z2, z3⟩ : R.1 12 = 1 ∧ rw_T A R h (po_T σ) ∧ R.1 13 = nI (po_H σ) := by
    rcases r4 with z | z
    · rw [z] at s4; exact absurd s4 (by decide)
    · exact z
  have hw : sp_wT (po_T σ) := (tb_ok r1).1
  have he : (po_T σ)[v]? = some (po_T σ)[v] := List.getElem?_eq_getElem s1
  have hin := sp_rk_in s1
  have htp : sp_tp (po_T σ) v = ((po_T σ)[v]).1 := by unfold sp_tp; rw [he]
  rw [htp] at hin s2
  obtain ⟨e, f1, f2, f3, f4, f5, f6, f7, f8, f9, f10, ⟨b, f11, f, f12, f13⟩, f14, f15⟩ := rw_T_at z2 hw hin
  rw [he] at f1
  cases f1
  obtain ⟨w1, w2, w3, w4, w5, -⟩ := hw.2 v _ he
  have hl := sp_cd_len hw v _ he
  refine ⟨_, b, f, z2, z1, z3, he, f4, f3, s2, s3, by omega, f8, f11, f12, f13, f10, by unfold sp_xo; rw [he], by unfold sp_sz at hl; omega, htp⟩
section RP4
variable {G : ax_G} {A : rw_Ad}

set_option maxRecDepth 100000 in
set_option maxHeartbeats 4000000 in
theorem r_hasN (hA : rw_nd A) (d : Nat) (R : rw_S) (h : ax_H) {σ : sp_St} (hR : RI A σ R h) (hs : σ.2.2 = none) : AW G mX7_has (d + 44) 0 0 (fun r h1 => r = .inl (some (.int 0)) ∧ h1 = rw_O A (rw_setS R 0 1) h) 0 [(0, .ref (A.1 0))] [] (rw_O A R h) 0 0 := by
  have h10 : R.1 10 = -1 := by have := hR.2.2.2.2; rw [hs] at this; exact this
  refine ax_aload_n dX7_has_0 rfl ?_
  refine ax_aload_n dX7_has_1 rfl ?_
  refine ax_get (v := .int (-1)) dX7_has_2 fkX7_26 (rw_g0 hA) (congrArg (fun z => some (Value.int z)) (h10)) ?_
  refine ax_iconst (v := (-1)) dX7_has_5 (by decide) ?_
  refine ax_icmp_ne (tgt := 13) dX7_has_6 (by decide) (fun z => absurd rfl z) (fun _ => ?_)
  refine ax_iconst (v := 1) dX7_has_9 (by decide) ?_
  refine ax_goto (tgt := 14) dX7_has_10 (by decide) ?_
  refine ax_put dX7_has_14 fpX7_52 (rw_g0 hA) rfl rfl (Nat.le_of_ble_eq_true rfl) ?_
  refine ax_eqh (rw_ps0 hA) ?_
  refine ax_aload_n dX7_has_17 rfl ?_
  refine ax_get (v := .int 1) dX7_has_18 fkX7_52 (rw_g0 hA) rfl ?_
  refine ax_if_ne (tgt := 28) dX7_has_21 (by decide) (fun _ => ?_) (fun z => absurd z (by decide))
  refine ax_aload_n dX7_has_28 rfl ?_
  refine ax_get (v := .int 1) dX7_has_29 fkX7_52 (rw_g0 hA) rfl ?_
  refine ax_if_ne (tgt := 39) dX7_has_32 (by decide) (fun _ => ?_) (fun z => absurd z (by decide))
  refine ax_iconst (v := 0) dX7_has_39 (by decide) ?_
  exact ax_iret (st := []) dX7_has_40 rfl rfl ⟨rfl, rfl⟩
theorem r_hasY (hA : rw_nd A) (d : Nat) (R : rw_S) (h : ax_H) {σ : sp_St} (hR : RI A σ R h) {v : Nat} (hs : σ.2.2 = some v) : AW G mX7_has (d + 44) 0 0 (fun r h1 => r = .inl (some (.int 1)) ∧ h1 = rw_O A (rw_setS R 0 0) h) 0 [(0, .ref (A.1 0))] [] (rw_O A R h) 0 0 := by
  obtain ⟨e, b, f, o1, o2, o3, o4, o5, o6, o7, -⟩ := rs_ok hR hs
  refine ax_aload_n dX7_has_0 rfl ?_
  refine ax_aload_n dX7_has_1 rfl ?_
  refine ax_get (v := .int (nI e.1)) dX7_has_2 fkX7_26 (rw_g0 hA) (congrArg (fun z => some (Value.int z)) (o7)) ?_
  refine ax_iconst (v := (-1)) dX7_has_5 (by decide) ?_
  refine ax_icmp_ne (tgt := 13) dX7_has_6 (by decide) (fun _ => ?_) (fun z => absurd z (nI_m1 (by omega)))
  refine ax_iconst (v := 0) dX7_has_13 (by decide) ?_
  refine ax_put dX7_has_14 fpX7_52 (rw_g0 hA) rfl rfl (Nat.le_of_ble_eq_true rfl) ?_
  refine ax_eqh (rw_ps0 hA) ?_
  refine ax_aload_n dX7_has_17 rfl ?_
  refine ax_get (v := .int 0) dX7_has_18 fkX7_52 (rw_g0 hA) rfl ?_
  refine ax_if_ne (tgt := 28) dX7_has_21 (by decide) (fun z => absurd rfl z) (fun _ => ?_)
  refine ax_aload_n dX7_has_24 rfl ?_
  refine ax_callV (b := (A.1 0)) (av := []) (rest := []) (mc' := 0) (ms' := 0) dX7_has_25 rfl lkX7_137 (rw_g0 hA) rfl (Nat.le_of_ble_eq_true rfl) (Nat.le_of_ble_eq_true rfl) (by decide) (by decide) (r_make1 hA _ (rw_setS R 0 0) h o2 (Q := fun r h1 => r = .inl none ∧ h1 = rw_O A (rw_setS R 0 0) h) ⟨rfl, rfl⟩) (fun E9 h9 q9 => by cases q9.1) (fun v9 h9 q9 => ?_)
  obtain ⟨e9, rfl⟩ := q9
  cases e9
  show AW G mX7_has (d + 44) 0 0 _ 28 [(0, .ref (A.1 0))] [] (rw_O A (rw_setS R 0 0) h) 0 0
  refine ax_aload_n dX7_has_28 rfl ?_
  refine ax_get (v := .int 0) dX7_has_29 fkX7_52 (rw_g0 hA) rfl ?_
  refine ax_if_ne (tgt := 39) dX7_has_32 (by decide) (fun z => absurd rfl z) (fun _ => ?_)
  refine ax_iconst (v := 1) dX7_has_35 (by decide) ?_
  refine ax_goto (tgt := 40) dX7_has_36 (by decide) ?_
  exact ax_iret (st := []) dX7_has_40 rfl rfl ⟨rfl, rfl⟩

set_option maxRecDepth 100000 in
set_option maxHeartbeats 4000000 in
theorem r_current (hA : rw_nd A) (d : Nat) (R : rw_S) (h : ax_H) {σ : sp_St} (hR : RI A σ R h) {v : Nat} (hs : σ.2.2 = some v) : AW G mX7_current (d + 1) 0 0 (fun r h1 => r = .inl (some (.int (nI v))) ∧ h1 = rw_O A R h) 0 [(0, .ref (A.1 0))] [] (rw_O A R h) 0 0 := by
  obtain ⟨e, b, f, o1, o2, o3, o4, o5, o6, o7, o8, o9, o10, -⟩ := rs_ok hR hs
  refine ax_aload_n dX7_current_0 rfl ?_
  refine ax_aload_n dX7_current_1 rfl ?_
  refine ax_get (v := .int (nI e.1)) dX7_current_2 fkX7_26 (rw_g0 hA) (congrArg (fun z => some (Value.int z)) (o7)) ?_
  refine ax_aload_n dX7_current_5 rfl ?_
  refine ax_get (v := .int (nI (sp_rk (po_T σ) v))) dX7_current_6 fkX7_149 (rw_g0 hA) (congrArg (fun z => some (Value.int z)) (o8)) ?_
  refine ax_callV (b := (A.1 0)) (av := [.int (nI e.1), .int (nI (sp_rk (po_T σ) v))]) (rest := []) (mc' := 0) (ms' := 0) dX7_current_9 rfl lkX7_110 (rw_g0 hA) rfl (Nat.le_of_ble_eq_true rfl) (Nat.le_of_ble_eq_true rfl) (by decide) (by decide) (r_value hA _ R h o6 o9 o10) (fun E9 h9 q9 => by cases q9.1) (fun v9 h9 q9 => ?_)
  obtain ⟨e9, rfl⟩ := q9
  cases e9
  show AW G mX7_current (d + 1) 0 0 _ 12 [(0, .ref (A.1 0))] [.int (nI v)] (rw_O A R h) 0 0
  exact ax_iret (st := []) dX7_current_12 rfl rfl ⟨rfl, rfl⟩

set_option maxRecDepth 100000 in
set_option maxHeartbeats 4000000 in
theorem rb_length (hA : rw_nd A) (d : Nat) (R : rw_S) (h : ax_H) {σ : sp_St} (hR : RI A σ R h)  : AW G mX7_length (d + 48) 0 0 (rb_Q A h (po_length σ)) 0 [(0, .ref (A.1 0))] [] (rw_O A R h) 0 0 := by
  cases hs : σ.2.2 with
  | none =>
    rw [show po_length σ = ((1, 0), σ) from by unfold po_length po_sel; rw [hs]]
    refine ax_aload_n dX7_length_0 rfl ?_
    refine ax_callV (b := (A.1 0)) (av := []) (rest := []) (mc' := 0) (ms' := 0) dX7_length_1 rfl lkX7_167 (rw_g0 hA) rfl (Nat.le_of_ble_eq_true rfl) (Nat.le_of_ble_eq_true rfl) (by omega) (by omega) (r_hasN hA _ R h hR hs) (fun E9 h9 q9 => by cases q9.1) (fun v9 h9 q9 => ?_)
    obtain ⟨e9, rfl⟩ := q9
    cases e9
    show AW G mX7_length (d + 48) 0 0 _ 4 [(0, .ref (A.1 0))] [.int 0] (rw_O A (rw_setS R 0 1) h) 0 0
    refine ax_if_eq (tgt := 20) dX7_length_4 (by decide) (fun _ => ?_) (fun z => absurd rfl z)
    refine ax_iconst (v := 0) dX7_length_20 (by decide) ?_
    exact ax_iret (st := []) dX7_length_21 rfl rfl ⟨_, h, _, rfl, rfl, hx_rfl h, RI_s0 1 hR, rfl, fun z => Nat.noConfusion z⟩
  | some v =>
    obtain ⟨e, b, f, o1, o2, o3, o4, o5, o6, o7, o8, o9, o10, o11, o12, o13, o14, o15, o16, o17⟩ := rs_ok (RI_s0 0 hR) hs
    have e0 : po_length σ = ((0, nI (sp_cd (po_T σ) v).length), σ) := by unfold po_length po_sel; rw [hs]
    rw [e0]
    refine ax_aload_n dX7_length_0 rfl ?_
    refine ax_callV (b := (A.1 0)) (av := []) (rest := []) (mc' := 0) (ms' := 0) dX7_length_1 rfl lkX7_167 (rw_g0 hA) rfl (Nat.le_of_ble_eq_true rfl) (Nat.le_of_ble_eq_true rfl) (by omega) (by omega) (r_hasY hA _ R h hR hs) (fun E9 h9 q9 => by cases q9.1) (fun v9 h9 q9 => ?_)
    obtain ⟨e9, rfl⟩ := q9
    cases e9
    show AW G mX7_length (d + 48) 0 0 _ 4 [(0, .ref (A.1 0))] [.int 1] (rw_O A (rw_setS R 0 0) h) 0 0
    refine ax_if_eq (tgt := 20) dX7_length_4 (by decide) (fun z => absurd z (by decide)) (fun _ => ?_)
    refine ax_aload_n dX7_length_7 rfl ?_
    refine ax_get (v := .ref (A.1 5)) dX7_length_8 fkX7_30 (rw_g0 hA) rfl ?_
    refine ax_aload_n dX7_length_11 rfl ?_
    refine ax_callV (b := (A.1 0)) (av := []) (rest := [.ref (A.1 5)]) (mc' := 0) (ms' := 0) dX7_length_12 rfl lkX7_171 (rw_g0 hA) rfl (Nat.le_of_ble_eq_true rfl) (Nat.le_of_ble_eq_true rfl) (by omega) (by omega) (r_current hA _ (rw_setS R 0 0) h (RI_s0 0 hR) hs) (fun E9 h9 q9 => by cases q9.1) (fun v9 h9 q9 => ?_)
    obtain ⟨e9, rfl⟩ := q9
    cases e9
    show AW G mX7_length (d + 48) 0 0 _ 15 [(0, .ref (A.1 0))] [.int (nI v), .ref (A.1 5)] (rw_O A (rw_setS R 0 0) h) 0 0
    refine ax_raald dX7_length_15 (rw_g5 hA) (nI_in o5 (by decide)) (w := b) (by rw [nI_clamp (by omega)]; exact o11) ?_
    refine ax_alen (n := (sp_cd (po_T σ) v).length) dX7_length_16 (rw_rd o12) (by decide) ?_
    refine ax_goto (tgt := 21) dX7_length_17 (by decide) ?_
    exact ax_iret (st := []) dX7_length_21 rfl rfl ⟨_, h, _, rfl, rfl, hx_rfl h, RI_s0 0 hR, rfl, fun _ => rfl⟩
set_option maxRecDepth 100000 in
set_option maxHeartbeats 4000000 in
theorem rb_number (hA : rw_nd A) (d : Nat) (R : rw_S) (h : ax_H) {σ : sp_St} (hR : RI A σ R h)  : AW G mX7_number (d + 48) 0 0 (rb_Q A h (po_number σ)) 0 [(0, .ref (A.1 0))] [] (rw_O A R h) 0 0 := by
  cases hs : σ.2.2 with
  | none =>
    rw [show po_number σ = ((1, 0), σ) from by unfold po_number po_sel; rw [hs]]
    refine ax_aload_n dX7_number_0 rfl ?_
    refine ax_callV (b := (A.1 0)) (av := []) (rest := []) (mc' := 0) (ms' := 0) dX7_number_1 rfl lkX7_167 (rw_g0 hA) rfl (Nat.le_of_ble_eq_true rfl) (Nat.le_of_ble_eq_true rfl) (by omega) (by omega) (r_hasN hA _ R h hR hs) (fun E9 h9 q9 => by cases q9.1) (fun v9 h9 q9 => ?_)
    obtain ⟨e9, rfl⟩ := q9
    cases e9
    show AW G mX7_number (d + 48) 0 0 _ 4 [(0, .ref (A.1 0))] [.int 0] (rw_O A (rw_setS R 0 1) h) 0 0
    refine ax_if_eq (tgt := 14) dX7_number_4 (by decide) (fun _ => ?_) (fun z => absurd rfl z)
    refine ax_iconst (v := 0) dX7_number_14 (by decide) ?_
    exact ax_iret (st := []) dX7_number_15 rfl rfl ⟨_, h, _, rfl, rfl, hx_rfl h, RI_s0 1 hR, rfl, fun z => Nat.noConfusion z⟩
  | some v =>
    obtain ⟨e, b, f, o1, o2, o3, o4, o5, o6, o7, o8, o9, o10, o11, o12, o13, o14, o15, o16, o17⟩ := rs_ok (RI_s0 0 hR) hs
    have e0 : po_number σ = ((0, nI (sp_rk (po_T σ) v)), σ) := by unfold po_number po_sel; rw [hs]
    rw [e0]
    refine ax_aload_n dX7_number_0 rfl ?_
    refine ax_callV (b := (A.1 0)) (av := []) (rest := []) (mc' := 0) (ms' := 0) dX7_number_1 rfl lkX7_167 (rw_g0 hA) rfl (Nat.le_of_ble_eq_true rfl) (Nat.le_of_ble_eq_true rfl) (by omega) (by omega) (r_hasY hA _ R h hR hs) (fun E9 h9 q9 => by cases q9.1) (fun v9 h9 q9 => ?_)
    obtain ⟨e9, rfl⟩ := q9
    cases e9
    show AW G mX7_number (d + 48) 0 0 _ 4 [(0, .ref (A.1 0))] [.int 1] (rw_O A (rw_setS R 0 0) h) 0 0
    refine ax_if_eq (tgt := 14) dX7_number_4 (by decide) (fun z => absurd z (by decide)) (fun _ => ?_)
    refine ax_aload_n dX7_number_7 rfl ?_
    refine ax_get (v := .int (nI (sp_rk (po_T σ) v))) dX7_number_8 fkX7_149 (rw_g0 hA) (congrArg (fun z => some (Value.int z)) (o8)) ?_
    refine ax_goto (tgt := 15) dX7_number_11 (by decide) ?_
    exact ax_iret (st := []) dX7_number_15 rfl rfl ⟨_, h, _, rfl, rfl, hx_rfl h, RI_s0 0 hR, rfl, fun _ => rfl⟩
set_option maxRecDepth 100000 in
set_option maxHeartbeats 4000000 in
theorem rb_height (hA : rw_nd A) (d : Nat) (R : rw_S) (h : ax_H) {σ : sp_St} (hR : RI A σ R h)  : AW G mX7_height (d + 48) 0 0 (rb_Q A h (po_height σ)) 0 [(0, .ref (A.1 0))] [] (rw_O A R h) 0 0 := by
  cases hs : σ.2.2 with
  | none =>
    rw [show po_height σ = ((1, 0), σ) from by unfold po_height po_sel; rw [hs]]
    refine ax_aload_n dX7_height_0 rfl ?_
    refine ax_callV (b := (A.1 0)) (av := []) (rest := []) (mc' := 0) (ms' := 0) dX7_height_1 rfl lkX7_167 (rw_g0 hA) rfl (Nat.le_of_ble_eq_true rfl) (Nat.le_of_ble_eq_true rfl) (by omega) (by omega) (r_hasN hA _ R h hR hs) (fun E9 h9 q9 => by cases q9.1) (fun v9 h9 q9 => ?_)
    obtain ⟨e9, rfl⟩ := q9
    cases e9
    show AW G mX7_height (d + 48) 0 0 _ 4 [(0, .ref (A.1 0))] [.int 0] (rw_O A (rw_setS R 0 1) h) 0 0
    refine ax_if_eq (tgt := 19) dX7_height_4 (by decide) (fun _ => ?_) (fun z => absurd rfl z)
    refine ax_iconst (v := 0) dX7_height_19 (by decide) ?_
    exact ax_iret (st := []) dX7_height_20 rfl rfl ⟨_, h, _, rfl, rfl, hx_rfl h, RI_s0 1 hR, rfl, fun z => Nat.noConfusion z⟩
  | some v =>
    obtain ⟨e, b, f, o1, o2, o3, o4, o5, o6, o7, o8, o9, o10, o11, o12, o13, o14, o15, o16, o17⟩ := rs_ok (RI_s0 0 hR) hs
    have e0 : po_height σ = ((0, nI (1 + sp_max (sp_hts (sp_xo (po_T σ) v)))), σ) := by unfold po_height po_sel; rw [hs]
    rw [e0]
    refine ax_aload_n dX7_height_0 rfl ?_
    refine ax_callV (b := (A.1 0)) (av := []) (rest := []) (mc' := 0) (ms' := 0) dX7_height_1 rfl lkX7_167 (rw_g0 hA) rfl (Nat.le_of_ble_eq_true rfl) (Nat.le_of_ble_eq_true rfl) (by omega) (by omega) (r_hasY hA _ R h hR hs) (fun E9 h9 q9 => by cases q9.1) (fun v9 h9 q9 => ?_)
    obtain ⟨e9, rfl⟩ := q9
    cases e9
    show AW G mX7_height (d + 48) 0 0 _ 4 [(0, .ref (A.1 0))] [.int 1] (rw_O A (rw_setS R 0 0) h) 0 0
    refine ax_if_eq (tgt := 19) dX7_height_4 (by decide) (fun z => absurd z (by decide)) (fun _ => ?_)
    refine ax_aload_n dX7_height_7 rfl ?_
    refine ax_get (v := .ref (A.1 7)) dX7_height_8 fkX7_37 (rw_g0 hA) rfl ?_
    refine ax_aload_n dX7_height_11 rfl ?_
    refine ax_callV (b := (A.1 0)) (av := []) (rest := [.ref (A.1 7)]) (mc' := 0) (ms' := 0) dX7_height_12 rfl lkX7_171 (rw_g0 hA) rfl (Nat.le_of_ble_eq_true rfl) (Nat.le_of_ble_eq_true rfl) (by omega) (by omega) (r_current hA _ (rw_setS R 0 0) h (RI_s0 0 hR) hs) (fun E9 h9 q9 => by cases q9.1) (fun v9 h9 q9 => ?_)
    obtain ⟨e9, rfl⟩ := q9
    cases e9
    show AW G mX7_height (d + 48) 0 0 _ 15 [(0, .ref (A.1 0))] [.int (nI v), .ref (A.1 7)] (rw_O A (rw_setS R 0 0) h) 0 0
    refine ax_ialdv (x := (nI (1 + sp_max (sp_hts e.2.2)))) dX7_height_15 (rw_g7 hA) (nI_in o5 (by decide)) (by rw [nI_clamp (by omega)]; exact o14) ?_
    refine ax_goto (tgt := 20) dX7_height_16 (by decide) ?_
    exact ax_iret (st := []) dX7_height_20 rfl rfl ⟨_, h, _, rfl, rfl, hx_rfl h, RI_s0 0 hR, rfl, fun _ => by rw [o15]⟩
set_option maxRecDepth 100000 in
set_option maxHeartbeats 4000000 in
theorem rb_code (hA : rw_nd A) (d : Nat) (R : rw_S) (h : ax_H) {σ : sp_St} (hR : RI A σ R h) (q : Int32) : AW G mX7_code (d + 48) 0 0 (rb_Q A h (po_code σ q)) 0 [(0, .ref (A.1 0)), (1, .int q)] [] (rw_O A R h) 0 0 := by
  cases hs : σ.2.2 with
  | none =>
    rw [show po_code σ q = ((1, 0), σ) from by unfold po_code po_sel; rw [hs]]
    refine ax_aload_n dX7_code_0 rfl ?_
    refine ax_callV (b := (A.1 0)) (av := []) (rest := []) (mc' := 0) (ms' := 0) dX7_code_1 rfl lkX7_167 (rw_g0 hA) rfl (Nat.le_of_ble_eq_true rfl) (Nat.le_of_ble_eq_true rfl) (by omega) (by omega) (r_hasN hA _ R h hR hs) (fun E9 h9 q9 => by cases q9.1) (fun v9 h9 q9 => ?_)
    obtain ⟨e9, rfl⟩ := q9
    cases e9
    show AW G mX7_code (d + 48) 0 0 _ 4 [(0, .ref (A.1 0)), (1, .int q)] [.int 0] (rw_O A (rw_setS R 0 1) h) 0 0
    refine ax_if_ne (tgt := 9) dX7_code_4 (by decide) (fun z => absurd rfl z) (fun _ => ?_)
    refine ax_iconst (v := 0) dX7_code_7 (by decide) ?_
    exact ax_iret (st := []) dX7_code_8 rfl rfl ⟨_, h, _, rfl, rfl, hx_rfl h, RI_s0 1 hR, rfl, fun z => Nat.noConfusion z⟩
  | some v =>
    obtain ⟨e, b, f, o1, o2, o3, o4, o5, o6, o7, o8, o9, o10, o11, o12, o13, o14, o15, o16, o17⟩ := rs_ok (RI_s0 0 hR) hs
    have e0 : po_code σ q = (if q < 0 ∨ nI (sp_cd (po_T σ) v).length ≤ q then ((2, 0), σ) else ((0, nI ((sp_cd (po_T σ) v).getD q.toNatClampNeg 0)), σ)) := by unfold po_code po_sel; rw [hs]
    rw [e0]
    by_cases hq0 : q < 0
    · rw [if_pos (Or.inl hq0)]
      refine ax_aload_n dX7_code_0 rfl ?_
      refine ax_callV (b := (A.1 0)) (av := []) (rest := []) (mc' := 0) (ms' := 0) dX7_code_1 rfl lkX7_167 (rw_g0 hA) rfl (Nat.le_of_ble_eq_true rfl) (Nat.le_of_ble_eq_true rfl) (by omega) (by omega) (r_hasY hA _ R h hR hs) (fun E9 h9 q9 => by cases q9.1) (fun v9 h9 q9 => ?_)
      obtain ⟨e9, rfl⟩ := q9
      cases e9
      show AW G mX7_code (d + 48) 0 0 _ 4 [(0, .ref (A.1 0)), (1, .int q)] [.int 1] (rw_O A (rw_setS R 0 0) h) 0 0
      refine ax_if_ne (tgt := 9) dX7_code_4 (by decide) (fun _ => ?_) (fun z => absurd z (by decide))
      refine ax_aload_n dX7_code_9 rfl ?_
      refine ax_get (v := .ref (A.1 5)) dX7_code_10 fkX7_30 (rw_g0 hA) rfl ?_
      refine ax_aload_n dX7_code_13 rfl ?_
      refine ax_callV (b := (A.1 0)) (av := []) (rest := [.ref (A.1 5)]) (mc' := 0) (ms' := 0) dX7_code_14 rfl lkX7_171 (rw_g0 hA) rfl (Nat.le_of_ble_eq_true rfl) (Nat.le_of_ble_eq_true rfl) (by omega) (by omega) (r_current hA _ (rw_setS R 0 0) h (RI_s0 0 hR) hs) (fun E9 h9 q9 => by cases q9.1) (fun v9 h9 q9 => ?_)
      obtain ⟨e9, rfl⟩ := q9
      cases e9
      show AW G mX7_code (d + 48) 0 0 _ 17 [(0, .ref (A.1 0)), (1, .int q)] [.int (nI v), .ref (A.1 5)] (rw_O A (rw_setS R 0 0) h) 0 0
      refine ax_raald dX7_code_17 (rw_g5 hA) (nI_in o5 (by decide)) (w := b) (by rw [nI_clamp (by omega)]; exact o11) ?_
      refine ax_astore_n dX7_code_18 (by decide) ?_
      refine ax_sub (lv' := [(0, .ref (A.1 0)), (1, .int q), (2, .ref b)]) (fun _ z => z) ?_
      refine ax_iload_n dX7_code_19 rfl ?_
      refine ax_if_lt (tgt := 35) dX7_code_20 (by decide) (fun _ => ?_) (fun z => absurd hq0 z)
      refine ax_aload_n dX7_code_35 rfl ?_
      refine ax_iconst (v := 2) dX7_code_36 (by decide) ?_
      refine ax_callV (b := (A.1 0)) (av := [.int 2]) (rest := []) (mc' := 0) (ms' := 0) dX7_code_37 rfl lkX7_72 (rw_g0 hA) rfl (Nat.le_of_ble_eq_true rfl) (Nat.le_of_ble_eq_true rfl) (by omega) (by omega) (r_fail hA _ (rw_setS R 0 0) h 2) (fun E9 h9 q9 => by cases q9.1) (fun v9 h9 q9 => ?_)
      obtain ⟨e9, rfl⟩ := q9
      cases e9
      show AW G mX7_code (d + 48) 0 0 _ 40 [(0, .ref (A.1 0)), (1, .int q), (2, .ref b)] [.int 0] (rw_O A (rw_setS (rw_setS R 0 0) 0 2) h) 0 0
      exact ax_iret (st := []) dX7_code_40 rfl rfl ⟨_, h, _, rfl, rfl, hx_rfl h, RI_s0 2 (RI_s0 0 hR), rfl, fun z => Nat.noConfusion z⟩
    · obtain ⟨k, hk, rfl⟩ := nI_of hq0
      by_cases hkl : k < (sp_cd (po_T σ) v).length
      · rw [if_neg (by rintro (z | z); exact hq0 z; exact il_nle _ k hkl rfl rfl (by omega) z)]
        refine ax_aload_n dX7_code_0 rfl ?_
        refine ax_callV (b := (A.1 0)) (av := []) (rest := []) (mc' := 0) (ms' := 0) dX7_code_1 rfl lkX7_167 (rw_g0 hA) rfl (Nat.le_of_ble_eq_true rfl) (Nat.le_of_ble_eq_true rfl) (by omega) (by omega) (r_hasY hA _ R h hR hs) (fun E9 h9 q9 => by cases q9.1) (fun v9 h9 q9 => ?_)
        obtain ⟨e9, rfl⟩ := q9
        cases e9
        show AW G mX7_code (d + 48) 0 0 _ 4 [(0, .ref (A.1 0)), (1, .int (nI k))] [.int 1] (rw_O A (rw_setS R 0 0) h) 0 0
        refine ax_if_ne (tgt := 9) dX7_code_4 (by decide) (fun _ => ?_) (fun z => absurd z (by decide))
        refine ax_aload_n dX7_code_9 rfl ?_
        refine ax_get (v := .ref (A.1 5)) dX7_code_10 fkX7_30 (rw_g0 hA) rfl ?_
        refine ax_aload_n dX7_code_13 rfl ?_
        refine ax_callV (b := (A.1 0)) (av := []) (rest := [.ref (A.1 5)]) (mc' := 0) (ms' := 0) dX7_code_14 rfl lkX7_171 (rw_g0 hA) rfl (Nat.le_of_ble_eq_true rfl) (Nat.le_of_ble_eq_true rfl) (by omega) (by omega) (r_current hA _ (rw_setS R 0 0) h (RI_s0 0 hR) hs) (fun E9 h9 q9 => by cases q9.1) (fun v9 h9 q9 => ?_)
        obtain ⟨e9, rfl⟩ := q9
        cases e9
        show AW G mX7_code (d + 48) 0 0 _ 17 [(0, .ref (A.1 0)), (1, .int (nI k))] [.int (nI v), .ref (A.1 5)] (rw_O A (rw_setS R 0 0) h) 0 0
        refine ax_raald dX7_code_17 (rw_g5 hA) (nI_in o5 (by decide)) (w := b) (by rw [nI_clamp (by omega)]; exact o11) ?_
        refine ax_astore_n dX7_code_18 (by decide) ?_
        refine ax_sub (lv' := [(0, .ref (A.1 0)), (1, .int (nI k)), (2, .ref b)]) (fun _ z => z) ?_
        refine ax_iload_n dX7_code_19 rfl ?_
        refine ax_if_lt (tgt := 35) dX7_code_20 (by decide) (fun z => absurd z hq0) (fun _ => ?_)
        refine ax_iload_n dX7_code_23 rfl ?_
        refine ax_aload_n dX7_code_24 rfl ?_
        refine ax_alen (n := (sp_cd (po_T σ) v).length) dX7_code_25 (rw_rd o12) (by decide) ?_
        refine ax_icmp_ge (tgt := 35) dX7_code_26 (by decide) (fun z => absurd z (il_nle (sp_cd (po_T σ) v).length k hkl)) (fun _ => ?_)
        refine ax_aload_n dX7_code_29 rfl ?_
        refine ax_iload_n dX7_code_30 rfl ?_
        refine ax_ialdv (x := (nI (sp_cd (po_T σ) v)[k])) dX7_code_31 (rw_rd o12) (nI_in hkl (by omega)) (by rw [nI_clamp hk]; exact o13 k _ (List.getElem?_eq_getElem hkl)) ?_
        refine ax_goto (tgt := 40) dX7_code_32 (by decide) ?_
        exact ax_iret (st := []) dX7_code_40 rfl rfl ⟨_, h, _, rfl, rfl, hx_rfl h, RI_s0 0 hR, rfl, fun _ => by show _ = nI ((sp_cd (po_T σ) v).getD (nI k).toNatClampNeg 0); rw [nI_clamp hk, List.getD_eq_getElem?_getD, List.getElem?_eq_getElem hkl]; rfl⟩
      · rw [if_pos (Or.inr (il_le _ k (by omega) rfl rfl))]
        refine ax_aload_n dX7_code_0 rfl ?_
        refine ax_callV (b := (A.1 0)) (av := []) (rest := []) (mc' := 0) (ms' := 0) dX7_code_1 rfl lkX7_167 (rw_g0 hA) rfl (Nat.le_of_ble_eq_true rfl) (Nat.le_of_ble_eq_true rfl) (by omega) (by omega) (r_hasY hA _ R h hR hs) (fun E9 h9 q9 => by cases q9.1) (fun v9 h9 q9 => ?_)
        obtain ⟨e9, rfl⟩ := q9
        cases e9
        show AW G mX7_code (d + 48) 0 0 _ 4 [(0, .ref (A.1 0)), (1, .int (nI k))] [.int 1] (rw_O A (rw_setS R 0 0) h) 0 0
        refine ax_if_ne (tgt := 9) dX7_code_4 (by decide) (fun _ => ?_) (fun z => absurd z (by decide))
        refine ax_aload_n dX7_code_9 rfl ?_
        refine ax_get (v := .ref (A.1 5)) dX7_code_10 fkX7_30 (rw_g0 hA) rfl ?_
        refine ax_aload_n dX7_code_13 rfl ?_
        refine ax_callV (b := (A.1 0)) (av := []) (rest := [.ref (A.1 5)]) (mc' := 0) (ms' := 0) dX7_code_14 rfl lkX7_171 (rw_g0 hA) rfl (Nat.le_of_ble_eq_true rfl) (Nat.le_of_ble_eq_true rfl) (by omega) (by omega) (r_current hA _ (rw_setS R 0 0) h (RI_s0 0 hR) hs) (fun E9 h9 q9 => by cases q9.1) (fun v9 h9 q9 => ?_)
        obtain ⟨e9, rfl⟩ := q9
        cases e9
        show AW G mX7_code (d + 48) 0 0 _ 17 [(0, .ref (A.1 0)), (1, .int (nI k))] [.int (nI v), .ref (A.1 5)] (rw_O A (rw_setS R 0 0) h) 0 0
        refine ax_raald dX7_code_17 (rw_g5 hA) (nI_in o5 (by decide)) (w := b) (by rw [nI_clamp (by omega)]; exact o11) ?_
        refine ax_astore_n dX7_code_18 (by decide) ?_
        refine ax_sub (lv' := [(0, .ref (A.1 0)), (1, .int (nI k)), (2, .ref b)]) (fun _ z => z) ?_
        refine ax_iload_n dX7_code_19 rfl ?_
        refine ax_if_lt (tgt := 35) dX7_code_20 (by decide) (fun z => absurd z hq0) (fun _ => ?_)
        refine ax_iload_n dX7_code_23 rfl ?_
        refine ax_aload_n dX7_code_24 rfl ?_
        refine ax_alen (n := (sp_cd (po_T σ) v).length) dX7_code_25 (rw_rd o12) (by decide) ?_
        refine ax_icmp_ge (tgt := 35) dX7_code_26 (by decide) (fun _ => ?_) (fun z => absurd (il_le (sp_cd (po_T σ) v).length k (by omega)) z)
        refine ax_aload_n dX7_code_35 rfl ?_
        refine ax_iconst (v := 2) dX7_code_36 (by decide) ?_
        refine ax_callV (b := (A.1 0)) (av := [.int 2]) (rest := []) (mc' := 0) (ms' := 0) dX7_code_37 rfl lkX7_72 (rw_g0 hA) rfl (Nat.le_of_ble_eq_true rfl) (Nat.le_of_ble_eq_true rfl) (by omega) (by omega) (r_fail hA _ (rw_setS R 0 0) h 2) (fun E9 h9 q9 => by cases q9.1) (fun v9 h9 q9 => ?_)
        obtain ⟨e9, rfl⟩ := q9
        cases e9
        show AW G mX7_code (d + 48) 0 0 _ 40 [(0, .ref (A.1 0)), (1, .int (nI k)), (2, .ref b)] [.int 0] (rw_O A (rw_setS (rw_setS R 0 0) 0 2) h) 0 0
        exact ax_iret (st := []) dX7_code_40 rfl rfl ⟨_, h, _, rfl, rfl, hx_rfl h, RI_s0 2 (RI_s0 0 hR), rfl, fun z => Nat.noConfusion z⟩
set_option maxRecDepth 100000 in
set_option maxHeartbeats 4000000 in
theorem rb_holds (hA : rw_nd A) (d : Nat) (R : rw_S) (h : ax_H) {σ : sp_St} (hR : RI A σ R h) (q : Int32) : AW G mX7_holds (d + 48) 0 0 (rb_Q A h (po_holds σ q)) 0 [(0, .ref (A.1 0)), (1, .int q)] [] (rw_O A R h) 0 0 := by
  cases hs : σ.2.2 with
  | none =>
    rw [show po_holds σ q = ((1, 0), σ) from by unfold po_holds po_sel; rw [hs]]
    refine ax_aload_n dX7_holds_0 rfl ?_
    refine ax_callV (b := (A.1 0)) (av := []) (rest := []) (mc' := 0) (ms' := 0) dX7_holds_1 rfl lkX7_167 (rw_g0 hA) rfl (Nat.le_of_ble_eq_true rfl) (Nat.le_of_ble_eq_true rfl) (by omega) (by omega) (r_hasN hA _ R h hR hs) (fun E9 h9 q9 => by cases q9.1) (fun v9 h9 q9 => ?_)
    obtain ⟨e9, rfl⟩ := q9
    cases e9
    show AW G mX7_holds (d + 48) 0 0 _ 4 [(0, .ref (A.1 0)), (1, .int q)] [.int 0] (rw_O A (rw_setS R 0 1) h) 0 0
    refine ax_if_ne (tgt := 9) dX7_holds_4 (by decide) (fun z => absurd rfl z) (fun _ => ?_)
    refine ax_iconst (v := 0) dX7_holds_7 (by decide) ?_
    exact ax_iret (st := []) dX7_holds_8 rfl rfl ⟨_, h, _, rfl, rfl, hx_rfl h, RI_s0 1 hR, rfl, fun z => Nat.noConfusion z⟩
  | some v =>
    obtain ⟨e, b, f, o1, o2, o3, o4, o5, o6, o7, o8, o9, o10, o11, o12, o13, o14, o15, o16, o17⟩ := rs_ok (RI_s0 0 (RI_s0 0 hR)) hs
    have e0 : po_holds σ q = (if q < 1 ∨ 5 < q then ((2, 0), σ) else ((0, if sp_cond q.toNatClampNeg (sp_xo (po_T σ) v) then 1 else 0), σ)) := by unfold po_holds po_sel; rw [hs]
    rw [e0]
    by_cases hkp : q < 1 ∨ 5 < q
    · rw [if_pos hkp]
      have hin : ¬ ((1 : Int32) ≤ q ∧ q ≤ 5) := fun z => in_15.mp z hkp
      refine ax_aload_n dX7_holds_0 rfl ?_
      refine ax_callV (b := (A.1 0)) (av := []) (rest := []) (mc' := 0) (ms' := 0) dX7_holds_1 rfl lkX7_167 (rw_g0 hA) rfl (Nat.le_of_ble_eq_true rfl) (Nat.le_of_ble_eq_true rfl) (by omega) (by omega) (r_hasY hA _ R h hR hs) (fun E9 h9 q9 => by cases q9.1) (fun v9 h9 q9 => ?_)
      obtain ⟨e9, rfl⟩ := q9
      cases e9
      show AW G mX7_holds (d + 48) 0 0 _ 4 [(0, .ref (A.1 0)), (1, .int q)] [.int 1] (rw_O A (rw_setS R 0 0) h) 0 0
      refine ax_if_ne (tgt := 9) dX7_holds_4 (by decide) (fun _ => ?_) (fun z => absurd z (by decide))
      refine ax_aload_n dX7_holds_9 rfl ?_
      refine ax_iload_n dX7_holds_10 rfl ?_
      refine ax_iconst (v := 1) dX7_holds_11 (by decide) ?_
      refine ax_iconst (v := 5) dX7_holds_12 (by decide) ?_
      refine ax_callS (av := [.int q, .int 1, .int 5]) (rest := [.ref (A.1 0)]) (mc' := 0) (ms' := 0) dX7_holds_13 rfl lkX7_58 rfl (Nat.le_of_ble_eq_true rfl) (Nat.le_of_ble_eq_true rfl) (by omega) (by omega) (r_isIn _ _ q 1 5) (fun E9 h9 q9 => by cases q9.1) (fun v9 h9 q9 => ?_)
      obtain ⟨e9, rfl⟩ := q9
      cases e9
      rw [if_neg hin]
      show AW G mX7_holds (d + 48) 0 0 _ 16 [(0, .ref (A.1 0)), (1, .int q)] [.int 0, .ref (A.1 0)] (rw_O A (rw_setS R 0 0) h) 0 0
      refine ax_if_eq (tgt := 23) dX7_holds_16 (by decide) (fun _ => ?_) (fun z => absurd rfl z)
      refine ax_iconst (v := 2) dX7_holds_23 (by decide) ?_
      refine ax_put dX7_holds_24 fpX7_52 (rw_g0 hA) rfl rfl (Nat.le_of_ble_eq_true rfl) ?_
      refine ax_eqh (rw_ps0 hA) ?_
      refine ax_aload_n dX7_holds_27 rfl ?_
      refine ax_get (v := .int 2) dX7_holds_28 fkX7_52 (rw_g0 hA) rfl ?_
      refine ax_if_ne (tgt := 50) dX7_holds_31 (by decide) (fun _ => ?_) (fun z => absurd z (by decide))
      refine ax_iconst (v := 0) dX7_holds_50 (by decide) ?_
      exact ax_iret (st := []) dX7_holds_51 rfl rfl ⟨_, h, _, rfl, rfl, hx_rfl h, RI_s0 2 (RI_s0 0 hR), rfl, fun z => Nat.noConfusion z⟩
    · rw [if_neg hkp]
      have hin : (1 : Int32) ≤ q ∧ q ≤ 5 := in_15.mpr hkp
      obtain ⟨p, rfl, hp1, hp5⟩ := i_prp hkp
      rw [nI_clamp (by omega), o15]
      cases hcc : sp_cond p e.2.2 with
      | true =>
        refine ax_aload_n dX7_holds_0 rfl ?_
        refine ax_callV (b := (A.1 0)) (av := []) (rest := []) (mc' := 0) (ms' := 0) dX7_holds_1 rfl lkX7_167 (rw_g0 hA) rfl (Nat.le_of_ble_eq_true rfl) (Nat.le_of_ble_eq_true rfl) (by omega) (by omega) (r_hasY hA _ R h hR hs) (fun E9 h9 q9 => by cases q9.1) (fun v9 h9 q9 => ?_)
        obtain ⟨e9, rfl⟩ := q9
        cases e9
        show AW G mX7_holds (d + 48) 0 0 _ 4 [(0, .ref (A.1 0)), (1, .int (nI p))] [.int 1] (rw_O A (rw_setS R 0 0) h) 0 0
        refine ax_if_ne (tgt := 9) dX7_holds_4 (by decide) (fun _ => ?_) (fun z => absurd z (by decide))
        refine ax_aload_n dX7_holds_9 rfl ?_
        refine ax_iload_n dX7_holds_10 rfl ?_
        refine ax_iconst (v := 1) dX7_holds_11 (by decide) ?_
        refine ax_iconst (v := 5) dX7_holds_12 (by decide) ?_
        refine ax_callS (av := [.int (nI p), .int 1, .int 5]) (rest := [.ref (A.1 0)]) (mc' := 0) (ms' := 0) dX7_holds_13 rfl lkX7_58 rfl (Nat.le_of_ble_eq_true rfl) (Nat.le_of_ble_eq_true rfl) (by omega) (by omega) (r_isIn _ _ (nI p) 1 5) (fun E9 h9 q9 => by cases q9.1) (fun v9 h9 q9 => ?_)
        obtain ⟨e9, rfl⟩ := q9
        cases e9
        rw [if_pos hin]
        show AW G mX7_holds (d + 48) 0 0 _ 16 [(0, .ref (A.1 0)), (1, .int (nI p))] [.int 1, .ref (A.1 0)] (rw_O A (rw_setS R 0 0) h) 0 0
        refine ax_if_eq (tgt := 23) dX7_holds_16 (by decide) (fun z => absurd z (by decide)) (fun _ => ?_)
        refine ax_iconst (v := 0) dX7_holds_19 (by decide) ?_
        refine ax_goto (tgt := 24) dX7_holds_20 (by decide) ?_
        refine ax_put dX7_holds_24 fpX7_52 (rw_g0 hA) rfl rfl (Nat.le_of_ble_eq_true rfl) ?_
        refine ax_eqh (rw_ps0 hA) ?_
        refine ax_aload_n dX7_holds_27 rfl ?_
        refine ax_get (v := .int 0) dX7_holds_28 fkX7_52 (rw_g0 hA) rfl ?_
        refine ax_if_ne (tgt := 50) dX7_holds_31 (by decide) (fun z => absurd rfl z) (fun _ => ?_)
        refine ax_aload_n dX7_holds_34 rfl ?_
        refine ax_aload_n dX7_holds_35 rfl ?_
        refine ax_callV (b := (A.1 0)) (av := []) (rest := [.ref (A.1 0)]) (mc' := 0) (ms' := 0) dX7_holds_36 rfl lkX7_171 (rw_g0 hA) rfl (Nat.le_of_ble_eq_true rfl) (Nat.le_of_ble_eq_true rfl) (by omega) (by omega) (r_current hA _ (rw_setS (rw_setS R 0 0) 0 0) h (RI_s0 0 (RI_s0 0 hR)) hs) (fun E9 h9 q9 => by cases q9.1) (fun v9 h9 q9 => ?_)
        obtain ⟨e9, rfl⟩ := q9
        cases e9
        show AW G mX7_holds (d + 48) 0 0 _ 39 [(0, .ref (A.1 0)), (1, .int (nI p))] [.int (nI v), .ref (A.1 0)] (rw_O A (rw_setS (rw_setS R 0 0) 0 0) h) 0 0
        refine ax_iload_n dX7_holds_39 rfl ?_
        refine ax_callV (b := (A.1 0)) (av := [.int (nI v), .int (nI p)]) (rest := []) (mc' := 0) (ms' := 0) dX7_holds_40 rfl lkX7_146 (rw_g0 hA) rfl (Nat.le_of_ble_eq_true rfl) (Nat.le_of_ble_eq_true rfl) (by omega) (by omega) (r_trueOf hA hR.1 _ (by omega) (rw_setS (rw_setS R 0 0) 0 0) h (RI_s0 0 (RI_s0 0 hR)).2.1 o1 (tb_ok hR.1).1 (sp_tab_ty hR.1) o4 hp5 (Q := fun r h1 => r = .inl (some (.int (if sp_cond p e.2.2 then 1 else 0))) ∧ ∃ s', lk_fr (rw_setS (rw_setS R 0 0) 0 0).1 s' ∧ h1 = rw_O A (s', (rw_setS (rw_setS R 0 0) 0 0).2) h) (fun s' z => ⟨rfl, s', z, rfl⟩)) (fun E9 h9 q9 => by cases q9.1) (fun v9 h9 q9 => ?_)
        obtain ⟨e9, s1, fr, rfl⟩ := q9
        rw [hcc] at e9
        cases e9
        show AW G mX7_holds (d + 48) 0 0 _ 43 [(0, .ref (A.1 0)), (1, .int (nI p))] [.int 1] (rw_O A (s1, R.2) h) 0 0
        refine ax_if_eq (tgt := 50) dX7_holds_43 (by decide) (fun z => absurd z (by decide)) (fun _ => ?_)
        refine ax_iconst (v := 1) dX7_holds_46 (by decide) ?_
        refine ax_goto (tgt := 51) dX7_holds_47 (by decide) ?_
        exact ax_iret (st := []) dX7_holds_51 rfl rfl ⟨(s1, R.2), h, _, rfl, rfl, hx_rfl h, RI_fx ⟨fun i x0 x20 x21 _ => (fr i x20 x21).trans ((pk_un x0).trans (pk_un x0)), fun _ _ _ => rfl, rfl⟩ hR, (fr 0 (by decide) (by decide)).trans rfl, fun _ => rfl⟩
      | false =>
        refine ax_aload_n dX7_holds_0 rfl ?_
        refine ax_callV (b := (A.1 0)) (av := []) (rest := []) (mc' := 0) (ms' := 0) dX7_holds_1 rfl lkX7_167 (rw_g0 hA) rfl (Nat.le_of_ble_eq_true rfl) (Nat.le_of_ble_eq_true rfl) (by omega) (by omega) (r_hasY hA _ R h hR hs) (fun E9 h9 q9 => by cases q9.1) (fun v9 h9 q9 => ?_)
        obtain ⟨e9, rfl⟩ := q9
        cases e9
        show AW G mX7_holds (d + 48) 0 0 _ 4 [(0, .ref (A.1 0)), (1, .int (nI p))] [.int 1] (rw_O A (rw_setS R 0 0) h) 0 0
        refine ax_if_ne (tgt := 9) dX7_holds_4 (by decide) (fun _ => ?_) (fun z => absurd z (by decide))
        refine ax_aload_n dX7_holds_9 rfl ?_
        refine ax_iload_n dX7_holds_10 rfl ?_
        refine ax_iconst (v := 1) dX7_holds_11 (by decide) ?_
        refine ax_iconst (v := 5) dX7_holds_12 (by decide) ?_
        refine ax_callS (av := [.int (nI p), .int 1, .int 5]) (rest := [.ref (A.1 0)]) (mc' := 0) (ms' := 0) dX7_holds_13 rfl lkX7_58 rfl (Nat.le_of_ble_eq_true rfl) (Nat.le_of_ble_eq_true rfl) (by omega) (by omega) (r_isIn _ _ (nI p) 1 5) (fun E9 h9 q9 => by cases q9.1) (fun v9 h9 q9 => ?_)
        obtain ⟨e9, rfl⟩ := q9
        cases e9
        rw [if_pos hin]
        show AW G mX7_holds (d + 48) 0 0 _ 16 [(0, .ref (A.1 0)), (1, .int (nI p))] [.int 1, .ref (A.1 0)] (rw_O A (rw_setS R 0 0) h) 0 0
        refine ax_if_eq (tgt := 23) dX7_holds_16 (by decide) (fun z => absurd z (by decide)) (fun _ => ?_)
        refine ax_iconst (v := 0) dX7_holds_19 (by decide) ?_
        refine ax_goto (tgt := 24) dX7_holds_20 (by decide) ?_
        refine ax_put dX7_holds_24 fpX7_52 (rw_g0 hA) rfl rfl (Nat.le_of_ble_eq_true rfl) ?_
        refine ax_eqh (rw_ps0 hA) ?_
        refine ax_aload_n dX7_holds_27 rfl ?_
        refine ax_get (v := .int 0) dX7_holds_28 fkX7_52 (rw_g0 hA) rfl ?_
        refine ax_if_ne (tgt := 50) dX7_holds_31 (by decide) (fun z => absurd rfl z) (fun _ => ?_)
        refine ax_aload_n dX7_holds_34 rfl ?_
        refine ax_aload_n dX7_holds_35 rfl ?_
        refine ax_callV (b := (A.1 0)) (av := []) (rest := [.ref (A.1 0)]) (mc' := 0) (ms' := 0) dX7_holds_36 rfl lkX7_171 (rw_g0 hA) rfl (Nat.le_of_ble_eq_true rfl) (Nat.le_of_ble_eq_true rfl) (by omega) (by omega) (r_current hA _ (rw_setS (rw_setS R 0 0) 0 0) h (RI_s0 0 (RI_s0 0 hR)) hs) (fun E9 h9 q9 => by cases q9.1) (fun v9 h9 q9 => ?_)
        obtain ⟨e9, rfl⟩ := q9
        cases e9
        show AW G mX7_holds (d + 48) 0 0 _ 39 [(0, .ref (A.1 0)), (1, .int (nI p))] [.int (nI v), .ref (A.1 0)] (rw_O A (rw_setS (rw_setS R 0 0) 0 0) h) 0 0
        refine ax_iload_n dX7_holds_39 rfl ?_
        refine ax_callV (b := (A.1 0)) (av := [.int (nI v), .int (nI p)]) (rest := []) (mc' := 0) (ms' := 0) dX7_holds_40 rfl lkX7_146 (rw_g0 hA) rfl (Nat.le_of_ble_eq_true rfl) (Nat.le_of_ble_eq_true rfl) (by omega) (by omega) (r_trueOf hA hR.1 _ (by omega) (rw_setS (rw_setS R 0 0) 0 0) h (RI_s0 0 (RI_s0 0 hR)).2.1 o1 (tb_ok hR.1).1 (sp_tab_ty hR.1) o4 hp5 (Q := fun r h1 => r = .inl (some (.int (if sp_cond p e.2.2 then 1 else 0))) ∧ ∃ s', lk_fr (rw_setS (rw_setS R 0 0) 0 0).1 s' ∧ h1 = rw_O A (s', (rw_setS (rw_setS R 0 0) 0 0).2) h) (fun s' z => ⟨rfl, s', z, rfl⟩)) (fun E9 h9 q9 => by cases q9.1) (fun v9 h9 q9 => ?_)
        obtain ⟨e9, s1, fr, rfl⟩ := q9
        rw [hcc] at e9
        cases e9
        show AW G mX7_holds (d + 48) 0 0 _ 43 [(0, .ref (A.1 0)), (1, .int (nI p))] [.int 0] (rw_O A (s1, R.2) h) 0 0
        refine ax_if_eq (tgt := 50) dX7_holds_43 (by decide) (fun _ => ?_) (fun z => absurd rfl z)
        refine ax_iconst (v := 0) dX7_holds_50 (by decide) ?_
        exact ax_iret (st := []) dX7_holds_51 rfl rfl ⟨(s1, R.2), h, _, rfl, rfl, hx_rfl h, RI_fx ⟨fun i x0 x20 x21 _ => (fr i x20 x21).trans ((pk_un x0).trans (pk_un x0)), fun _ _ _ => rfl, rfl⟩ hR, (fr 0 (by decide) (by decide)).trans rfl, fun _ => rfl⟩
end RP4
