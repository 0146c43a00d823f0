/-! ===== public methods, on the selected value ===== -/
def fp_ok (a b : Nat) : Bool := decide (FP.ddiv (FP.i2d (nI a)) (FP.i2d (nI b)) &&& 0x7fffffffffffffff ≤ 0x7ff0000000000000)
theorem fp_all : (List.range 121).all (fun a => (List.range 24).all (fun b => fp_ok a (b + 1))) = true := by decide +kernel
theorem fp_nan {a b : Nat} (ha : a ≤ 120) (hb : 0 < b) (hb2 : b ≤ 24) : vf_n64 (FP.ddiv (FP.i2d (nI a)) (FP.i2d (nI b))) := by
  have h1 := List.all_eq_true.mp fp_all a (List.mem_range.mpr (by omega))
  have h2 := List.all_eq_true.mp h1 (b - 1) (List.mem_range.mpr (by omega))
  rw [show b - 1 + 1 = b by omega] at h2
  unfold fp_ok at h2
  unfold vf_n64
  exact of_decide_eq_true h2
section PUB3
variable {G : ax_G} {ad : cs_K → Nat}

set_option maxRecDepth 100000 in
set_option maxHeartbeats 4000000 in
theorem pb_length (hi : cs_inj ad) (d : Nat) (S : cs_S) (h : ax_H) {σ : sp_St} (hC : CI σ S)  : AW G mX6_length (d + 16) 1 6 (pb_Q ad h (pb_nm ["java/lang/IllegalStateException"]) (po_length σ)) 0 [(0, .ref (ad (0, 0)))] [] (cs_O ad S h) 0 0 := by
  cases hs : σ.2.2 with
  | none =>
    rw [show po_length σ = ((1, 0), σ) from by unfold po_length po_sel; rw [hs]]
    refine ax_aload_n dX6_length_0 rfl ?_
    refine ax_callV (b := (ad (0, 0))) (av := []) (rest := []) (mc' := 1) (ms' := 6) dX6_length_1 rfl lkX6_166 (cs_get hi (cs_k0 (by decide))) rfl (Nat.le_of_ble_eq_true rfl) (Nat.le_of_ble_eq_true rfl) (by decide) (by decide) (ch_chosenN hi _ S h (hC.2.2.2.2.2.2.1.trans hs)) (fun E9 h9 q9 => by obtain ⟨e9, rfl⟩ := q9; cases e9; exact ⟨rfl, _, rfl, hC⟩) (fun v9 h9 q9 => ?_)
    cases q9.1
  | some v =>
    obtain ⟨hs1, hf, hv3, e, he, hxo, hrk, hok, hv1, hgx, ht4, hcl, hil, hsz⟩ := sel_ok hC hs
    have e0 : po_length σ = ((0, nI (sp_cd (po_T σ) v).length), σ) := by unfold po_length po_sel; rw [hs]
    rw [e0]
    refine ax_aload_n dX6_length_0 rfl ?_
    refine ax_callV (b := (ad (0, 0))) (av := []) (rest := []) (mc' := 0) (ms' := 0) dX6_length_1 rfl lkX6_166 (cs_get hi (cs_k0 (by decide))) rfl (Nat.le_of_ble_eq_true rfl) (Nat.le_of_ble_eq_true rfl) (by decide) (by decide) (ch_chosenY hi _ S h hs1) (fun E9 h9 q9 => by cases q9.1) (fun v9 h9 q9 => ?_)
    obtain ⟨e9, rfl⟩ := q9
    cases e9
    show AW G mX6_length (d + 16) 1 6 _ 4 [(0, .ref (ad (0, 0)))] [.ref (ad (1, v))] (cs_O ad S h) 0 0
    refine ax_callV (b := (ad (1, v))) (av := []) (rest := []) (mc' := 0) (ms' := 0) dX6_length_4 rfl lkX6_170 (cs_get hi (cs_k1 (by omega))) rfl (Nat.le_of_ble_eq_true rfl) (Nat.le_of_ble_eq_true rfl) (by decide) (by decide) (ch_cl hi _ S h (by omega) hok) (fun E9 h9 q9 => by cases q9.1) (fun v9 h9 q9 => ?_)
    obtain ⟨e9, rfl⟩ := q9
    cases e9
    show AW G mX6_length (d + 16) 1 6 _ 7 [(0, .ref (ad (0, 0)))] [.int (nI (1 + sp_size e.2.2 + (sp_ints e.2.2).length))] (cs_O ad S h) 0 0
    exact ax_iret (st := []) dX6_length_7 rfl rfl ⟨by rw [hcl]; rfl, S, rfl, hC⟩
set_option maxRecDepth 100000 in
set_option maxHeartbeats 4000000 in
theorem pb_number (hi : cs_inj ad) (d : Nat) (S : cs_S) (h : ax_H) {σ : sp_St} (hC : CI σ S)  : AW G mX6_number (d + 16) 1 6 (pb_Q ad h (pb_nm ["java/lang/IllegalStateException"]) (po_number σ)) 0 [(0, .ref (ad (0, 0)))] [] (cs_O ad S h) 0 0 := by
  cases hs : σ.2.2 with
  | none =>
    rw [show po_number σ = ((1, 0), σ) from by unfold po_number po_sel; rw [hs]]
    refine ax_aload_n dX6_number_0 rfl ?_
    refine ax_callV (b := (ad (0, 0))) (av := []) (rest := []) (mc' := 1) (ms' := 6) dX6_number_1 rfl lkX6_166 (cs_get hi (cs_k0 (by decide))) rfl (Nat.le_of_ble_eq_true rfl) (Nat.le_of_ble_eq_true rfl) (by decide) (by decide) (ch_chosenN hi _ S h (hC.2.2.2.2.2.2.1.trans hs)) (fun E9 h9 q9 => by obtain ⟨e9, rfl⟩ := q9; cases e9; exact ⟨rfl, _, rfl, hC⟩) (fun v9 h9 q9 => ?_)
    cases q9.1
  | some v =>
    obtain ⟨hs1, hf, hv3, e, he, hxo, hrk, hok, hv1, hgx, ht4, hcl, hil, hsz⟩ := sel_ok hC hs
    have e0 : po_number σ = ((0, nI (sp_rk (po_T σ) v)), σ) := by unfold po_number po_sel; rw [hs]
    rw [e0]
    refine ax_aload_n dX6_number_0 rfl ?_
    refine ax_callV (b := (ad (0, 0))) (av := []) (rest := []) (mc' := 0) (ms' := 0) dX6_number_1 rfl lkX6_166 (cs_get hi (cs_k0 (by decide))) rfl (Nat.le_of_ble_eq_true rfl) (Nat.le_of_ble_eq_true rfl) (by decide) (by decide) (ch_chosenY hi _ S h hs1) (fun E9 h9 q9 => by cases q9.1) (fun v9 h9 q9 => ?_)
    obtain ⟨e9, rfl⟩ := q9
    cases e9
    show AW G mX6_number (d + 16) 1 6 _ 4 [(0, .ref (ad (0, 0)))] [.ref (ad (1, v))] (cs_O ad S h) 0 0
    refine ax_get (v := .int (nI (sp_rk (po_T σ) v))) dX6_number_4 fkX6_163 (cs_get hi (cs_k1 (by omega))) (congrArg (fun z => some (Value.int z)) (hv1)) ?_
    exact ax_iret (st := []) dX6_number_7 rfl rfl ⟨rfl, S, rfl, hC⟩
set_option maxRecDepth 100000 in
set_option maxHeartbeats 4000000 in
theorem pb_height (hi : cs_inj ad) (d : Nat) (S : cs_S) (h : ax_H) {σ : sp_St} (hC : CI σ S)  : AW G mX6_height (d + 16) 1 6 (pb_Q ad h (pb_nm ["java/lang/IllegalStateException"]) (po_height σ)) 0 [(0, .ref (ad (0, 0)))] [] (cs_O ad S h) 0 0 := by
  cases hs : σ.2.2 with
  | none =>
    rw [show po_height σ = ((1, 0), σ) from by unfold po_height po_sel; rw [hs]]
    refine ax_aload_n dX6_height_0 rfl ?_
    refine ax_callV (b := (ad (0, 0))) (av := []) (rest := []) (mc' := 1) (ms' := 6) dX6_height_1 rfl lkX6_166 (cs_get hi (cs_k0 (by decide))) rfl (Nat.le_of_ble_eq_true rfl) (Nat.le_of_ble_eq_true rfl) (by decide) (by decide) (ch_chosenN hi _ S h (hC.2.2.2.2.2.2.1.trans hs)) (fun E9 h9 q9 => by obtain ⟨e9, rfl⟩ := q9; cases e9; exact ⟨rfl, _, rfl, hC⟩) (fun v9 h9 q9 => ?_)
    cases q9.1
  | some v =>
    obtain ⟨hs1, hf, hv3, e, he, hxo, hrk, hok, hv1, hgx, ht4, hcl, hil, hsz⟩ := sel_ok hC hs
    have e0 : po_height σ = ((0, nI (1 + sp_max (sp_hts (sp_xo (po_T σ) v)))), σ) := by unfold po_height po_sel; rw [hs]
    rw [e0]
    refine ax_aload_n dX6_height_0 rfl ?_
    refine ax_callV (b := (ad (0, 0))) (av := []) (rest := []) (mc' := 0) (ms' := 0) dX6_height_1 rfl lkX6_166 (cs_get hi (cs_k0 (by decide))) rfl (Nat.le_of_ble_eq_true rfl) (Nat.le_of_ble_eq_true rfl) (by decide) (by decide) (ch_chosenY hi _ S h hs1) (fun E9 h9 q9 => by cases q9.1) (fun v9 h9 q9 => ?_)
    obtain ⟨e9, rfl⟩ := q9
    cases e9
    show AW G mX6_height (d + 16) 1 6 _ 4 [(0, .ref (ad (0, 0)))] [.ref (ad (1, v))] (cs_O ad S h) 0 0
    refine ax_get (v := .int (nI (1 + sp_max (sp_hts e.2.2)))) dX6_height_4 fkX6_184 (cs_get hi (cs_k1 (by omega))) (congrArg (fun z => some (Value.int z)) (hok.2.2.2.2.1)) ?_
    exact ax_iret (st := []) dX6_height_7 rfl rfl ⟨by rw [hxo]; rfl, S, rfl, hC⟩
set_option maxRecDepth 100000 in
set_option maxHeartbeats 4000000 in
theorem pb_holds (hi : cs_inj ad) (d : Nat) (S : cs_S) (h : ax_H) {σ : sp_St} (hC : CI σ S) (q : Int32) : AW G mX6_holds (d + 16) 1 6 (pb_Q ad h (pb_nm ["java/lang/IllegalStateException", "java/lang/IllegalArgumentException"]) (po_holds σ q)) 0 [(0, .ref (ad (0, 0))), (1, .int q)] [] (cs_O ad S h) 0 0 := by
  cases hs : σ.2.2 with
  | none =>
    rw [show po_holds σ q = ((1, 0), σ) from by unfold po_holds po_sel; rw [hs]]
    refine ax_aload_n dX6_holds_0 rfl ?_
    refine ax_callV (b := (ad (0, 0))) (av := []) (rest := []) (mc' := 1) (ms' := 6) dX6_holds_1 rfl lkX6_166 (cs_get hi (cs_k0 (by decide))) rfl (Nat.le_of_ble_eq_true rfl) (Nat.le_of_ble_eq_true rfl) (by decide) (by decide) (ch_chosenN hi _ S h (hC.2.2.2.2.2.2.1.trans hs)) (fun E9 h9 q9 => by obtain ⟨e9, rfl⟩ := q9; cases e9; exact ⟨rfl, _, rfl, hC⟩) (fun v9 h9 q9 => ?_)
    cases q9.1
  | some v =>
    obtain ⟨hs1, hf, hv3, e, he, hxo, hrk, hok, hv1, hgx, ht4, hcl, hil, hsz⟩ := sel_ok hC hs
    have e0 : po_holds σ q = (if q < 1 ∨ 5 < q then ((2, 0), σ) else ((0, if sp_cond q.toNatClampNeg (sp_xo (po_T σ) v) then 1 else 0), σ)) := by unfold po_holds po_sel; rw [hs]
    rw [e0]
    by_cases hkp : q < 1 ∨ 5 < q
    · rw [if_pos hkp]
      refine ax_aload_n dX6_holds_0 rfl ?_
      refine ax_callV (b := (ad (0, 0))) (av := []) (rest := []) (mc' := 0) (ms' := 0) dX6_holds_1 rfl lkX6_166 (cs_get hi (cs_k0 (by decide))) rfl (Nat.le_of_ble_eq_true rfl) (Nat.le_of_ble_eq_true rfl) (by decide) (by decide) (ch_chosenY hi _ S h hs1) (fun E9 h9 q9 => by cases q9.1) (fun v9 h9 q9 => ?_)
      obtain ⟨e9, rfl⟩ := q9
      cases e9
      show AW G mX6_holds (d + 16) 1 6 _ 4 [(0, .ref (ad (0, 0))), (1, .int q)] [.ref (ad (1, v))] (cs_O ad S h) 0 0
      refine ax_astore_n dX6_holds_4 (by decide) ?_
      refine ax_sub (lv' := [(0, .ref (ad (0, 0))), (1, .int q), (2, .ref (ad (1, v)))]) (fun _ z => z) ?_
      refine ax_aload_n dX6_holds_5 rfl ?_
      refine ax_iload_n dX6_holds_6 rfl ?_
      refine ax_callV (b := (ad (0, 0))) (av := [.int q]) (rest := []) (mc' := 1) (ms' := 6) dX6_holds_7 rfl lkX6_112 (cs_get hi (cs_k0 (by decide))) rfl (Nat.le_of_ble_eq_true rfl) (Nat.le_of_ble_eq_true rfl) (by decide) (by decide) (rq_propN _ S h hkp) (fun E9 h9 q9 => by obtain ⟨e9, rfl⟩ := q9; cases e9; exact ⟨rfl, _, rfl, hC⟩) (fun v9 h9 q9 => ?_)
      cases q9.1
    · rw [if_neg hkp]
      obtain ⟨p, rfl, hp1, hp5⟩ := i_prp hkp
      refine ax_aload_n dX6_holds_0 rfl ?_
      refine ax_callV (b := (ad (0, 0))) (av := []) (rest := []) (mc' := 0) (ms' := 0) dX6_holds_1 rfl lkX6_166 (cs_get hi (cs_k0 (by decide))) rfl (Nat.le_of_ble_eq_true rfl) (Nat.le_of_ble_eq_true rfl) (by decide) (by decide) (ch_chosenY hi _ S h hs1) (fun E9 h9 q9 => by cases q9.1) (fun v9 h9 q9 => ?_)
      obtain ⟨e9, rfl⟩ := q9
      cases e9
      show AW G mX6_holds (d + 16) 1 6 _ 4 [(0, .ref (ad (0, 0))), (1, .int (nI p))] [.ref (ad (1, v))] (cs_O ad S h) 0 0
      refine ax_astore_n dX6_holds_4 (by decide) ?_
      refine ax_sub (lv' := [(0, .ref (ad (0, 0))), (1, .int (nI p)), (2, .ref (ad (1, v)))]) (fun _ z => z) ?_
      refine ax_aload_n dX6_holds_5 rfl ?_
      refine ax_iload_n dX6_holds_6 rfl ?_
      refine ax_callV (b := (ad (0, 0))) (av := [.int (nI p)]) (rest := []) (mc' := 0) (ms' := 0) dX6_holds_7 rfl lkX6_112 (cs_get hi (cs_k0 (by decide))) rfl (Nat.le_of_ble_eq_true rfl) (Nat.le_of_ble_eq_true rfl) (by decide) (by decide) (rq_propY _ S h hkp) (fun E9 h9 q9 => by cases q9.1) (fun v9 h9 q9 => ?_)
      obtain ⟨e9, rfl⟩ := q9
      cases e9
      show AW G mX6_holds (d + 16) 1 6 _ 10 [(0, .ref (ad (0, 0))), (1, .int (nI p)), (2, .ref (ad (1, v)))] [] (cs_O ad S h) 0 0
      refine ax_aload_n dX6_holds_10 rfl ?_
      refine ax_iload_n dX6_holds_11 rfl ?_
      refine ax_callV (b := (ad (1, v))) (av := [.int (nI p)]) (rest := []) (mc' := 0) (ms' := 0) dX6_holds_12 rfl lkX6_119 (cs_get hi (cs_k1 (by omega))) rfl (Nat.le_of_ble_eq_true rfl) (Nat.le_of_ble_eq_true rfl) (by decide) (by decide) (ch_fits hi _ S h (v := v) (by omega) hok hgx hp5) (fun E9 h9 q9 => by cases q9.1) (fun v9 h9 q9 => ?_)
      obtain ⟨e9, rfl⟩ := q9
      cases e9
      show AW G mX6_holds (d + 16) 1 6 _ 15 [(0, .ref (ad (0, 0))), (1, .int (nI p)), (2, .ref (ad (1, v)))] [.int (if sp_cond p e.2.2 then 1 else 0)] (cs_O ad S h) 0 0
      refine ax_iret (st := []) dX6_holds_15 rfl (by cases sp_cond p e.2.2 <;> rfl) ⟨?_, S, rfl, hC⟩
      show _ = Sum.inl (some (Value.int (if sp_cond (nI p).toNatClampNeg (sp_xo (po_T σ) v) then 1 else 0)))
      rw [nI_clamp (by omega), hxo]
set_option maxRecDepth 100000 in
set_option maxHeartbeats 4000000 in
theorem pb_mean (hi : cs_inj ad) (d : Nat) (S : cs_S) (h : ax_H) {σ : sp_St} (hC : CI σ S)  : AW G mX6_mean (d + 16) 1 6 (fun r h1 => r = (if (po_mean σ).1 = 0 then .inl (some (.double (po_mean σ).2)) else .inr "java/lang/IllegalStateException") ∧ ∃ S', h1 = cs_O ad S' h ∧ CI σ S') 0 [(0, .ref (ad (0, 0)))] [] (cs_O ad S h) 0 0 := by
  cases hs : σ.2.2 with
  | none =>
    have e0 : po_mean σ = (1, 0) := by unfold po_mean; rw [hs]
    rw [e0]
    refine ax_aload_n dX6_mean_0 rfl ?_
    refine ax_callV (b := (ad (0, 0))) (av := []) (rest := []) (mc' := 1) (ms' := 6) dX6_mean_1 rfl lkX6_166 (cs_get hi (cs_k0 (by decide))) rfl (Nat.le_of_ble_eq_true rfl) (Nat.le_of_ble_eq_true rfl) (by decide) (by decide) (ch_chosenN hi _ S h (hC.2.2.2.2.2.2.1.trans hs)) (fun E9 h9 q9 => by obtain ⟨e9, rfl⟩ := q9; cases e9; exact ⟨rfl, _, rfl, hC⟩) (fun v9 h9 q9 => ?_)
    cases q9.1
  | some v =>
    obtain ⟨hs1, hf, hv3, e, he, hxo, hrk, hok, hv1, hgx, ht4, hcl, hil, hsz⟩ := sel_ok hC hs
    have e0 : po_mean σ = (0, if (sp_ints (sp_xo (po_T σ) v)).length = 0 then FP.dconst0 else FP.ddiv (FP.i2d (nI (sp_ints (sp_xo (po_T σ) v)).sum)) (FP.i2d (nI (sp_ints (sp_xo (po_T σ) v)).length))) := by unfold po_mean; rw [hs]
    rw [e0, hxo]
    have h10 : cs_vf S v 10 = nI (sp_ints e.2.2).length := hok.2.2.2.2.2.2.2.1
    have h11 : cs_vf S v 11 = nI (sp_ints e.2.2).sum := hok.2.2.2.2.2.2.2.2.1
    by_cases hl : (sp_ints e.2.2).length = 0
    · rw [if_pos hl]
      refine ax_aload_n dX6_mean_0 rfl ?_
      refine ax_callV (b := (ad (0, 0))) (av := []) (rest := []) (mc' := 0) (ms' := 0) dX6_mean_1 rfl lkX6_166 (cs_get hi (cs_k0 (by decide))) rfl (Nat.le_of_ble_eq_true rfl) (Nat.le_of_ble_eq_true rfl) (by decide) (by decide) (ch_chosenY hi _ S h hs1) (fun E9 h9 q9 => by cases q9.1) (fun v9 h9 q9 => ?_)
      obtain ⟨e9, rfl⟩ := q9
      cases e9
      show AW G mX6_mean (d + 16) 1 6 _ 4 [(0, .ref (ad (0, 0)))] [.ref (ad (1, v))] (cs_O ad S h) 0 0
      refine ax_astore_n dX6_mean_4 (by decide) ?_
      refine ax_sub (lv' := [(0, .ref (ad (0, 0))), (1, .ref (ad (1, v)))]) (fun _ z => z) ?_
      refine ax_aload_n dX6_mean_5 rfl ?_
      refine ax_get (v := .int (cs_vf S v 10)) dX6_mean_6 fkX6_187 (cs_get hi (cs_k1 (by omega))) rfl ?_
      refine ax_if_gt (tgt := 14) dX6_mean_9 (by decide) (fun z => absurd z (il_nlt 0 0 (Nat.le_refl _) rfl (by rw [h10, hl]))) (fun _ => ?_)
      refine ax_dconst0 dX6_mean_12 ?_
      exact ax_dret (st := []) dX6_mean_13 rfl ⟨rfl, S, rfl, hC⟩
    · rw [if_neg hl]
      refine ax_aload_n dX6_mean_0 rfl ?_
      refine ax_callV (b := (ad (0, 0))) (av := []) (rest := []) (mc' := 0) (ms' := 0) dX6_mean_1 rfl lkX6_166 (cs_get hi (cs_k0 (by decide))) rfl (Nat.le_of_ble_eq_true rfl) (Nat.le_of_ble_eq_true rfl) (by decide) (by decide) (ch_chosenY hi _ S h hs1) (fun E9 h9 q9 => by cases q9.1) (fun v9 h9 q9 => ?_)
      obtain ⟨e9, rfl⟩ := q9
      cases e9
      show AW G mX6_mean (d + 16) 1 6 _ 4 [(0, .ref (ad (0, 0)))] [.ref (ad (1, v))] (cs_O ad S h) 0 0
      refine ax_astore_n dX6_mean_4 (by decide) ?_
      refine ax_sub (lv' := [(0, .ref (ad (0, 0))), (1, .ref (ad (1, v)))]) (fun _ z => z) ?_
      refine ax_aload_n dX6_mean_5 rfl ?_
      refine ax_get (v := .int (cs_vf S v 10)) dX6_mean_6 fkX6_187 (cs_get hi (cs_k1 (by omega))) rfl ?_
      refine ax_if_gt (tgt := 14) dX6_mean_9 (by decide) (fun _ => ?_) (fun z => absurd (il_lt 0 (sp_ints e.2.2).length (by omega) rfl h10) z)
      refine ax_aload_n dX6_mean_14 rfl ?_
      refine ax_get (v := .int (nI (sp_ints e.2.2).sum)) dX6_mean_15 fkX6_190 (cs_get hi (cs_k1 (by omega))) (congrArg (fun z => some (Value.int z)) (h11)) ?_
      refine ax_i2d dX6_mean_18 ?_
      refine ax_aload_n dX6_mean_19 rfl ?_
      refine ax_get (v := .int (nI (sp_ints e.2.2).length)) dX6_mean_20 fkX6_187 (cs_get hi (cs_k1 (by omega))) (congrArg (fun z => some (Value.int z)) h10) ?_
      refine ax_i2d dX6_mean_23 ?_
      refine ax_ddiv dX6_mean_24 (fp_nan ?_ (by omega) hil) ?_
      · have := sp_sum_le (l := sp_ints e.2.2) (fun n hn => (sp_len_ints hgx.2).2.1 n hn)
        omega
      exact ax_dret (st := []) dX6_mean_25 rfl ⟨rfl, S, rfl, hC⟩
theorem CI_wr {σ : sp_St} {S S' : cs_S} (hC : CI σ S) {L : List Nat} (h : st_w 0 L (cs_setS S 11 0) S') : CI σ S' := by
  have h0 : st_eq S (cs_setS S 11 0) := ⟨fun i a _ _ => pk_un (by omega), fun _ _ => rfl, fun _ _ => rfl, fun _ _ => ⟨rfl, rfl, rfl⟩⟩
  have hC0 : CI (σ.1, σ.2.1, σ.2.2) (cs_setS S 11 0) := CI_mv hC h0 ⟨hC.2.2.2.1.1, hC.2.2.2.1.2⟩ hC.2.2.2.2.2.2.1 hC.2.2.2.2.2.2.2
  refine CI_mv hC0 (st_eq_w h) ⟨(h.2.1 10 (by decide)).trans hC0.2.2.2.1.1, hC0.2.2.2.1.2.1, ?_, hC0.2.2.2.1.2.2.2⟩ ?_ hC0.2.2.2.2.2.2.2
  · rw [h.2.2.1 13 (by decide)]; exact hC0.2.2.2.1.2.2.1
  · rw [h.2.2.2.1]; exact hC0.2.2.2.2.2.2.1
theorem CI_rs {σ : sp_St} {S S' : cs_S} (hC : CI σ S) (h : st_rs S S') : CI σ S' := by
  refine CI_mv hC (st_eq_rs h) ⟨(h.1 10 (by decide)).trans hC.2.2.2.1.1, hC.2.2.2.1.2.1, ?_, hC.2.2.2.1.2.2.2⟩ ?_ hC.2.2.2.2.2.2.2
  · rw [h.2.1]; exact hC.2.2.2.1.2.2.1
  · rw [h.2.2.2]; exact hC.2.2.2.2.2.2.1
theorem ch_cat (hi : cs_inj ad) (d : Nat) (S : cs_S) (h : ax_H) {L : List Nat} {j a : Nat} (h11 : S.1 11 = nI L.length) (hl : L.length ≤ 32) (hj : L[j]? = some a) (ha : S.2.1 16 j = nI a) : AW G mX0_at d 0 0 (fun r h1 => r = .inl (some (.int (nI a))) ∧ h1 = cs_O ad S h) 0 [(0, .ref (ad (0, 15))), (1, .int (nI j))] [] (cs_O ad S h) 0 0 := by
  have hks := cg_k2 (i := 15) (j := 16) (by decide) (by decide)
  have hjl := (List.getElem?_eq_some_iff.mp hj).1
  refine ax_eqh (cs_in hi (ks := [(0, 15), (0, 16)]) hks).symm ?_
  refine ax_mono (ctX0_at d (cs_O ad S h) (ad (0, 15)) (ad (0, 16)) (S.1 11) (nI j) (S.2.1 16) (cs_nd hi hks (by simp))) ?_
  rintro r h1 ⟨e, rfl⟩
  refine ⟨e.trans ?_, cs_in hi hks⟩
  rw [if_neg (nI_pos (by omega)), h11, if_neg (il_nle L.length j hjl), if_neg (il_nle 32 j (by omega)), nI_clamp (by omega), ha]
set_option maxRecDepth 100000 in
set_option maxHeartbeats 4000000 in
theorem pb_code (hi : cs_inj ad) (d : Nat) (S : cs_S) (h : ax_H) {σ : sp_St} (hC : CI σ S) (q : Int32) : AW G mX6_code (d + 16) 1 6 (pb_Q ad h (pb_nm ["java/lang/IllegalStateException", "java/lang/IndexOutOfBoundsException"]) (po_code σ q)) 0 [(0, .ref (ad (0, 0))), (1, .int q)] [] (cs_O ad S h) 0 0 := by
  cases hs : σ.2.2 with
  | none =>
    rw [show po_code σ q = ((1, 0), σ) from by unfold po_code po_sel; rw [hs]]
    refine ax_aload_n dX6_code_0 rfl ?_
    refine ax_callV (b := (ad (0, 0))) (av := []) (rest := []) (mc' := 1) (ms' := 6) dX6_code_1 rfl lkX6_166 (cs_get hi (cs_k0 (by decide))) rfl (Nat.le_of_ble_eq_true rfl) (Nat.le_of_ble_eq_true rfl) (by decide) (by decide) (ch_chosenN hi _ S h (hC.2.2.2.2.2.2.1.trans hs)) (fun E9 h9 q9 => by obtain ⟨e9, rfl⟩ := q9; cases e9; exact ⟨rfl, _, rfl, hC⟩) (fun v9 h9 q9 => ?_)
    cases q9.1
  | some v =>
    obtain ⟨hs1, hf, hv3, e, he, hxo, hrk, hok, hv1, hgx, ht4, hcl, hil, hsz⟩ := sel_ok hC hs
    have e0 : po_code σ q = (if q < 0 ∨ nI (sp_cd (po_T σ) v).length ≤ q then ((2, 0), σ) else ((0, nI ((sp_cd (po_T σ) v).getD q.toNatClampNeg 0)), σ)) := by unfold po_code po_sel; rw [hs]
    rw [e0]
    have hl32 : (sp_cd (po_T σ) v).length ≤ 32 := by omega
    by_cases hq0 : q < 0
    · rw [if_pos (Or.inl hq0)]
      refine ax_aload_n dX6_code_0 rfl ?_
      refine ax_callV (b := (ad (0, 0))) (av := []) (rest := []) (mc' := 0) (ms' := 0) dX6_code_1 rfl lkX6_166 (cs_get hi (cs_k0 (by decide))) rfl (Nat.le_of_ble_eq_true rfl) (Nat.le_of_ble_eq_true rfl) (by decide) (by decide) (ch_chosenY hi _ S h hs1) (fun E9 h9 q9 => by cases q9.1) (fun v9 h9 q9 => ?_)
      obtain ⟨e9, rfl⟩ := q9
      cases e9
      show AW G mX6_code (d + 16) 1 6 _ 4 [(0, .ref (ad (0, 0))), (1, .int q)] [.ref (ad (1, v))] (cs_O ad S h) 0 0
      refine ax_astore_n dX6_code_4 (by decide) ?_
      refine ax_sub (lv' := [(0, .ref (ad (0, 0))), (1, .int q), (2, .ref (ad (1, v)))]) (fun _ z => z) ?_
      refine ax_iload_n dX6_code_5 rfl ?_
      refine ax_if_lt (tgt := 17) dX6_code_6 (by decide) (fun _ => ?_) (fun z => absurd hq0 z)
      exact ax_throw rfl (thIOB (List.mem_of_getElem? (i := 11) rfl)) dX6_code_17 dX6_code_20 dX6_code_21 dX6_code_23 dX6_code_26 (by decide) (by decide) (by decide) ⟨rfl, S, rfl, hC⟩
    · obtain ⟨k, hk, rfl⟩ := nI_of hq0
      by_cases hkl : k < (sp_cd (po_T σ) v).length
      · rw [if_neg (by rintro (z | z); exact hq0 z; exact il_nle _ k hkl rfl rfl (by omega) z)]
        refine ax_aload_n dX6_code_0 rfl ?_
        refine ax_callV (b := (ad (0, 0))) (av := []) (rest := []) (mc' := 0) (ms' := 0) dX6_code_1 rfl lkX6_166 (cs_get hi (cs_k0 (by decide))) rfl (Nat.le_of_ble_eq_true rfl) (Nat.le_of_ble_eq_true rfl) (by decide) (by decide) (ch_chosenY hi _ S h hs1) (fun E9 h9 q9 => by cases q9.1) (fun v9 h9 q9 => ?_)
        obtain ⟨e9, rfl⟩ := q9
        cases e9
        show AW G mX6_code (d + 16) 1 6 _ 4 [(0, .ref (ad (0, 0))), (1, .int (nI k))] [.ref (ad (1, v))] (cs_O ad S h) 0 0
        refine ax_astore_n dX6_code_4 (by decide) ?_
        refine ax_sub (lv' := [(0, .ref (ad (0, 0))), (1, .int (nI k)), (2, .ref (ad (1, v)))]) (fun _ z => z) ?_
        refine ax_iload_n dX6_code_5 rfl ?_
        refine ax_if_lt (tgt := 17) dX6_code_6 (by decide) (fun z => absurd z hq0) (fun _ => ?_)
        refine ax_iload_n dX6_code_9 rfl ?_
        refine ax_aload_n dX6_code_10 rfl ?_
        refine ax_callV (b := (ad (1, v))) (av := []) (rest := [.int (nI k)]) (mc' := 0) (ms' := 0) dX6_code_11 rfl lkX6_170 (cs_get hi (cs_k1 (by omega))) rfl (Nat.le_of_ble_eq_true rfl) (Nat.le_of_ble_eq_true rfl) (by decide) (by decide) (ch_cl hi _ S h (by omega) hok) (fun E9 h9 q9 => by cases q9.1) (fun v9 h9 q9 => ?_)
        obtain ⟨e9, rfl⟩ := q9
        cases e9
        show AW G mX6_code (d + 16) 1 6 _ 14 [(0, .ref (ad (0, 0))), (1, .int (nI k)), (2, .ref (ad (1, v)))] [.int (nI (1 + sp_size e.2.2 + (sp_ints e.2.2).length)), .int (nI k)] (cs_O ad S h) 0 0
        refine ax_icmp_lt (tgt := 27) dX6_code_14 (by decide) (fun _ => ?_) (fun z => absurd (il_lt k _ (by omega : k < 1 + sp_size e.2.2 + (sp_ints e.2.2).length)) z)
        refine ax_aload_n dX6_code_27 rfl ?_
        refine ax_get (v := .ref (ad (0, 15))) dX6_code_28 fkX6_35 (cs_get hi (cs_k0 (by decide))) rfl ?_
        refine ax_aload_n dX6_code_31 rfl ?_
        refine ax_callV (b := (ad (0, 15))) (av := [.ref (ad (1, v))]) (rest := []) (mc' := 0) (ms' := 0) dX6_code_32 rfl lkX6_176 (cs_get hi (cs_k0 (by decide))) rfl (Nat.le_of_ble_eq_true rfl) (Nat.le_of_ble_eq_true rfl) (by decide) (by decide) (ch_write hi _ S h (st_fin_cod hC.1 hf (sp_tab_ty hC.1) he) (by omega) (by omega) (by omega) hl32 (Q := fun r h1 => r = .inl none ∧ ∃ S', h1 = cs_O ad S' h ∧ st_w 0 (sp_cd (po_T σ) v) (cs_setS S 11 0) S') (fun S' z => ⟨rfl, S', rfl, z⟩)) (fun E9 h9 q9 => by cases q9.1) (fun v9 h9 q9 => ?_)
        obtain ⟨e9, S1, rfl, o1⟩ := q9
        cases e9
        show AW G mX6_code (d + 16) 1 6 _ 35 [(0, .ref (ad (0, 0))), (1, .int (nI k)), (2, .ref (ad (1, v)))] [] (cs_O ad S1 h) 0 0
        refine ax_aload_n dX6_code_35 rfl ?_
        refine ax_get (v := .ref (ad (0, 15))) dX6_code_36 fkX6_35 (cs_get hi (cs_k0 (by decide))) rfl ?_
        refine ax_iload_n dX6_code_39 rfl ?_
        refine ax_callV (b := (ad (0, 15))) (av := [.int (nI k)]) (rest := []) (mc' := 0) (ms' := 0) dX6_code_40 rfl lkX6_180 (cs_get hi (cs_k0 (by decide))) rfl (Nat.le_of_ble_eq_true rfl) (Nat.le_of_ble_eq_true rfl) (by decide) (by decide) (ch_cat hi _ S1 h (L := sp_cd (po_T σ) v) (j := k) (a := (sp_cd (po_T σ) v)[k]) (by rw [o1.1, Nat.zero_add]) hl32 (List.getElem?_eq_getElem hkl) (by have := o1.2.2.2.2.2 k _ (List.getElem?_eq_getElem hkl); rw [Nat.zero_add] at this; exact this)) (fun E9 h9 q9 => by cases q9.1) (fun v9 h9 q9 => ?_)
        obtain ⟨e9, rfl⟩ := q9
        cases e9
        show AW G mX6_code (d + 16) 1 6 _ 43 [(0, .ref (ad (0, 0))), (1, .int (nI k)), (2, .ref (ad (1, v)))] [.int (nI (sp_cd (po_T σ) v)[k])] (cs_O ad S1 h) 0 0
        refine ax_iret (st := []) dX6_code_43 rfl rfl ⟨?_, S1, rfl, ?_⟩
        · show _ = Sum.inl (some (Value.int (nI ((sp_cd (po_T σ) v).getD (nI k).toNatClampNeg 0))))
          rw [nI_clamp hk, List.getD_eq_getElem?_getD, List.getElem?_eq_getElem hkl]; rfl
        · exact CI_wr hC o1
      · rw [if_pos (Or.inr (il_le _ k (by omega) rfl rfl))]
        refine ax_aload_n dX6_code_0 rfl ?_
        refine ax_callV (b := (ad (0, 0))) (av := []) (rest := []) (mc' := 0) (ms' := 0) dX6_code_1 rfl lkX6_166 (cs_get hi (cs_k0 (by decide))) rfl (Nat.le_of_ble_eq_true rfl) (Nat.le_of_ble_eq_true rfl) (by decide) (by decide) (ch_chosenY hi _ S h hs1) (fun E9 h9 q9 => by cases q9.1) (fun v9 h9 q9 => ?_)
        obtain ⟨e9, rfl⟩ := q9
        cases e9
        show AW G mX6_code (d + 16) 1 6 _ 4 [(0, .ref (ad (0, 0))), (1, .int (nI k))] [.ref (ad (1, v))] (cs_O ad S h) 0 0
        refine ax_astore_n dX6_code_4 (by decide) ?_
        refine ax_sub (lv' := [(0, .ref (ad (0, 0))), (1, .int (nI k)), (2, .ref (ad (1, v)))]) (fun _ z => z) ?_
        refine ax_iload_n dX6_code_5 rfl ?_
        refine ax_if_lt (tgt := 17) dX6_code_6 (by decide) (fun z => absurd z hq0) (fun _ => ?_)
        refine ax_iload_n dX6_code_9 rfl ?_
        refine ax_aload_n dX6_code_10 rfl ?_
        refine ax_callV (b := (ad (1, v))) (av := []) (rest := [.int (nI k)]) (mc' := 0) (ms' := 0) dX6_code_11 rfl lkX6_170 (cs_get hi (cs_k1 (by omega))) rfl (Nat.le_of_ble_eq_true rfl) (Nat.le_of_ble_eq_true rfl) (by decide) (by decide) (ch_cl hi _ S h (by omega) hok) (fun E9 h9 q9 => by cases q9.1) (fun v9 h9 q9 => ?_)
        obtain ⟨e9, rfl⟩ := q9
        cases e9
        show AW G mX6_code (d + 16) 1 6 _ 14 [(0, .ref (ad (0, 0))), (1, .int (nI k)), (2, .ref (ad (1, v)))] [.int (nI (1 + sp_size e.2.2 + (sp_ints e.2.2).length)), .int (nI k)] (cs_O ad S h) 0 0
        refine ax_icmp_lt (tgt := 27) dX6_code_14 (by decide) (fun z => absurd z (il_nlt k (1 + sp_size e.2.2 + (sp_ints e.2.2).length) (by omega))) (fun _ => ?_)
        exact ax_throw rfl (thIOB (List.mem_of_getElem? (i := 11) rfl)) dX6_code_17 dX6_code_20 dX6_code_21 dX6_code_23 dX6_code_26 (by decide) (by decide) (by decide) ⟨rfl, S, rfl, hC⟩
set_option maxRecDepth 100000 in
set_option maxHeartbeats 4000000 in
theorem pb_redCount (hi : cs_inj ad) (d : Nat) (S : cs_S) (h : ax_H) {σ : sp_St} (hC : CI σ S)  : AW G mX6_reductionCount (d + 16) 1 6 (pb_Q ad h (pb_nm ["java/lang/IllegalStateException"]) (po_redCount σ)) 0 [(0, .ref (ad (0, 0)))] [] (cs_O ad S h) 0 0 := by
  cases hs : σ.2.2 with
  | none =>
    rw [show po_redCount σ = ((1, 0), σ) from by unfold po_redCount po_sel; rw [hs]]
    refine ax_aload_n dX6_reductionCount_0 rfl ?_
    refine ax_get (v := .ref (ad (0, 17))) dX6_reductionCount_1 fkX6_42 (cs_get hi (cs_k0 (by decide))) rfl ?_
    refine ax_aload_n dX6_reductionCount_4 rfl ?_
    refine ax_callV (b := (ad (0, 0))) (av := []) (rest := [.ref (ad (0, 17))]) (mc' := 1) (ms' := 6) dX6_reductionCount_5 rfl lkX6_166 (cs_get hi (cs_k0 (by decide))) rfl (Nat.le_of_ble_eq_true rfl) (Nat.le_of_ble_eq_true rfl) (by decide) (by decide) (ch_chosenN hi _ S h (hC.2.2.2.2.2.2.1.trans hs)) (fun E9 h9 q9 => by obtain ⟨e9, rfl⟩ := q9; cases e9; exact ⟨rfl, _, rfl, hC⟩) (fun v9 h9 q9 => ?_)
    cases q9.1
  | some v =>
    obtain ⟨hs1, hf, hv3, e, he, hxo, hrk, hok, hv1, hgx, ht4, hcl, hil, hsz⟩ := sel_ok hC hs
    have e0 : po_redCount σ = ((0, nI (sp_red (po_T σ) v).length), σ) := by unfold po_redCount po_sel; rw [hs]
    rw [e0]
    refine ax_aload_n dX6_reductionCount_0 rfl ?_
    refine ax_get (v := .ref (ad (0, 17))) dX6_reductionCount_1 fkX6_42 (cs_get hi (cs_k0 (by decide))) rfl ?_
    refine ax_aload_n dX6_reductionCount_4 rfl ?_
    refine ax_callV (b := (ad (0, 0))) (av := []) (rest := [.ref (ad (0, 17))]) (mc' := 0) (ms' := 0) dX6_reductionCount_5 rfl lkX6_166 (cs_get hi (cs_k0 (by decide))) rfl (Nat.le_of_ble_eq_true rfl) (Nat.le_of_ble_eq_true rfl) (by decide) (by decide) (ch_chosenY hi _ S h hs1) (fun E9 h9 q9 => by cases q9.1) (fun v9 h9 q9 => ?_)
    obtain ⟨e9, rfl⟩ := q9
    cases e9
    show AW G mX6_reductionCount (d + 16) 1 6 _ 8 [(0, .ref (ad (0, 0)))] [.ref (ad (1, v)), .ref (ad (0, 17))] (cs_O ad S h) 0 0
    refine ax_aload_n dX6_reductionCount_8 rfl ?_
    refine ax_get (v := .ref (ad (0, 6))) dX6_reductionCount_9 fkX6_21 (cs_get hi (cs_k0 (by decide))) rfl ?_
    refine ax_callV (b := (ad (0, 17))) (av := [.ref (ad (1, v)), .ref (ad (0, 6))]) (rest := []) (mc' := 0) (ms' := 0) dX6_reductionCount_12 rfl lkX6_193 (cs_get hi (cs_k0 (by decide))) rfl (Nat.le_of_ble_eq_true rfl) (Nat.le_of_ble_eq_true rfl) (by decide) (by decide) (ch_collect hi hC.1 (sp_tab_ty hC.1) _ S h hf he (Q := fun r h1 => r = .inl none ∧ ∃ S', h1 = cs_O ad S' h ∧ st_rs S S' ∧ st_rd (sp_red (po_T σ) v) S') (fun S' a b => ⟨rfl, S', rfl, a, b⟩)) (fun E9 h9 q9 => by cases q9.1) (fun v9 h9 q9 => ?_)
    obtain ⟨e9, S1, rfl, o1, o2⟩ := q9
    cases e9
    show AW G mX6_reductionCount (d + 16) 1 6 _ 15 [(0, .ref (ad (0, 0)))] [] (cs_O ad S1 h) 0 0
    refine ax_aload_n dX6_reductionCount_15 rfl ?_
    refine ax_get (v := .ref (ad (0, 17))) dX6_reductionCount_16 fkX6_42 (cs_get hi (cs_k0 (by decide))) rfl ?_
    refine ax_get (v := .int (nI (sp_red (po_T σ) v).length)) dX6_reductionCount_19 fkX6_197 (cs_get hi (cs_k0 (by decide))) (congrArg (fun z => some (Value.int z)) (o2.1)) ?_
    exact ax_iret (st := []) dX6_reductionCount_22 rfl rfl ⟨rfl, S1, rfl, CI_rs hC o1⟩
/-- what a reduction is -/
theorem sp_red_IA {g : sp_G} {p : List sp_E × Nat} {S : cs_S} (hf : st_fin g p S) {v : Nat} {e : sp_E} (he : p.1[v]? = some e) : sp_IA p.1 e.1 (sp_rk p.1 v) (sp_red p.1 v) := by
  obtain ⟨T, H⟩ := p
  have he : T[v]? = some e := he
  show sp_IA T e.1 (sp_rk T v) (sp_red T v)
  have hw : sp_wT T := hf.2.2.2.1
  have hs : sp_srt T := hf.2.2.2.2.1
  have hvl : v < T.length := (List.getElem?_eq_some_iff.mp he).1
  have hxo : sp_xo T v = e.2.2 := by unfold sp_xo; rw [he]
  have htp : sp_tp T v = e.1 := by unfold sp_tp; rw [he]
  have hrkv : sp_rk T v = sp_cnt (T.take v) e.1 := by unfold sp_rk; rw [he]
  obtain ⟨w1, w2, w3, -⟩ := hw.2 v e he
  have hIA0 : sp_IA T e.1 (sp_upto T e.1 (sp_size e.2.2)) [] := ⟨List.nodup_nil, fun x z => absurd z List.not_mem_nil⟩
  have hIA1 := sp_prs_IA hw hs (t := e.1) (z := sp_size e.2.2) 8 v e [] he (by unfold sp_sz; omega) hIA0
  have hlo : sp_upto T e.1 (sp_size e.2.2) ≤ sp_rk T v := by
    rw [hrkv]; exact sp_upto_cut hs he (by unfold sp_sz; omega)
  have hlen : sp_rk T v < (sp_of T e.1).length := by
    have := (List.getElem?_eq_some_iff.mp (sp_rk_in hvl)).1
    rw [htp] at this
    exact this
  have key : ∀ (i r : Nat) (acc : List Nat), r + i = sp_rk T v → sp_IA T e.1 r acc → sp_IA T e.1 (sp_rk T v) (acc ++ (((sp_of T e.1).take (sp_rk T v)).drop r).filter (fun w => decide (sp_sh (sp_cd T v) = sp_sh (sp_cd T w) ∧ sp_ham (sp_cd T v) (sp_cd T w) = 1))) := by
    intro i
    induction i with
    | zero =>
      intro r acc hr hIA
      rw [List.drop_eq_nil_of_le (by rw [List.length_take]; omega), List.filter_nil, List.append_nil]
      exact sp_IA_up hIA (by omega)
    | succ i ih =>
      intro r acc hr hIA
      have hrl2 : r < (sp_of T e.1).length := by omega
      have hwr : (sp_of T e.1)[r]? = some (sp_of T e.1)[r] := List.getElem?_eq_getElem hrl2
      obtain ⟨z1, z2, z3⟩ := sp_rk_of hwr
      have hd1 : ((sp_of T e.1).take (sp_rk T v)).drop r = (sp_of T e.1)[r] :: ((sp_of T e.1).take (sp_rk T v)).drop (r + 1) := by
        rw [List.drop_eq_getElem_cons (by rw [List.length_take]; omega), List.getElem_take]
      rw [hd1]
      by_cases hc : sp_sh (sp_cd T v) = sp_sh (sp_cd T (sp_of T e.1)[r]) ∧ sp_ham (sp_cd T v) (sp_cd T (sp_of T e.1)[r]) = 1
      · rw [List.filter_cons_of_pos (by simpa using hc)]
        have hnot : (sp_of T e.1)[r] ∉ acc := fun hm => by
          have := (hIA.2 _ hm).2.2
          omega
        have := ih (r + 1) (acc ++ [(sp_of T e.1)[r]]) (by omega) (sp_IA_snoc (sp_IA_up hIA (by omega)) z1 z2 (by omega) hnot)
        rwa [List.append_assoc, List.singleton_append] at this
      · rw [List.filter_cons_of_neg (by simpa using hc)]
        exact ih (r + 1) acc (by omega) (sp_IA_up hIA (by omega))
  have := key (sp_rk T v - sp_upto T e.1 (sp_size e.2.2)) (sp_upto T e.1 (sp_size e.2.2)) _ (by omega) hIA1
  show sp_IA T e.1 (sp_rk T v) (sp_prs T (sp_tp T v) 8 v [] ++ sp_dec T v)
  unfold sp_dec
  rw [htp, hxo, show 1 + sp_size e.2.2 - 1 = sp_size e.2.2 by omega]
  exact this
theorem sp_red_in {g : sp_G} {p : List sp_E × Nat} {S : cs_S} (hf : st_fin g p S) {v : Nat} {e : sp_E} (he : p.1[v]? = some e) {k w : Nat} (hk : (sp_red p.1 v)[k]? = some w) : ∃ ew : sp_E, w < 300 ∧ p.1[w]? = some ew := by
  have hm := List.mem_of_getElem? hk
  have := (sp_red_IA hf he).2 w hm
  exact ⟨_, Nat.lt_of_lt_of_le this.1 hf.2.2.2.1.1, List.getElem?_eq_getElem this.1⟩
theorem sp_red_len {g : sp_G} {p : List sp_E × Nat} {S : cs_S} (_ : sp_wg g) (hf : st_fin g p S) {v : Nat} {e : sp_E} (he : p.1[v]? = some e) : (sp_red p.1 v).length ≤ 300 := by
  have h1 := sp_IA_len (sp_red_IA hf he)
  have h2 : sp_rk p.1 v = sp_cnt (p.1.take v) e.1 := by unfold sp_rk; rw [he]
  have h3 := sp_cnt_le (p.1.take v) e.1
  have h4 := hf.2.2.2.1.1
  rw [List.length_take] at h3
  omega
theorem ch_atN (hi : cs_inj ad) (d : Nat) (S : cs_S) (h : ax_H) {Rs : List Nat} {k : Int32} (hr : st_rd Rs S) (hk : k < 0 ∨ nI Rs.length ≤ k) : AW G mX2_at d 0 0 (fun r h1 => r = .inl (some .null) ∧ h1 = cs_O ad S h) 0 [(0, .ref (ad (0, 17))), (1, .int k)] [] (cs_O ad S h) 0 0 := by
  have hks := cg_k2 (i := 17) (j := 18) (by decide) (by decide)
  refine ax_eqh (cs_in hi (ks := [(0, 17), (0, 18)]) hks).symm ?_
  refine ax_mono (ctX2_at d (cs_O ad S h) (ad (0, 17)) (ad (0, 18)) (S.1 12) k (fun j => cs_rf ad (S.2.2.1 18 j)) (cs_nd hi hks (by simp))) ?_
  rintro r h1 ⟨e, rfl⟩
  refine ⟨e.trans ?_, cs_in hi hks⟩
  rw [hr.1]
  rcases hk with z | z
  · rw [if_pos z]; rfl
  · by_cases z0 : k < 0
    · rw [if_pos z0]; rfl
    · rw [if_neg z0, if_pos z]; rfl
set_option maxRecDepth 100000 in
set_option maxHeartbeats 4000000 in
theorem pb_reduction (hi : cs_inj ad) (d : Nat) (S : cs_S) (h : ax_H) {σ : sp_St} (hC : CI σ S) (q : Int32) : AW G mX6_reduction (d + 16) 1 6 (pb_Q ad h (pb_nm ["java/lang/IllegalStateException", "java/lang/IndexOutOfBoundsException"]) (po_reduction σ q)) 0 [(0, .ref (ad (0, 0))), (1, .int q)] [] (cs_O ad S h) 0 0 := by
  cases hs : σ.2.2 with
  | none =>
    rw [show po_reduction σ q = ((1, 0), σ) from by unfold po_reduction po_sel; rw [hs]]
    refine ax_aload_n dX6_reduction_0 rfl ?_
    refine ax_get (v := .ref (ad (0, 17))) dX6_reduction_1 fkX6_42 (cs_get hi (cs_k0 (by decide))) rfl ?_
    refine ax_aload_n dX6_reduction_4 rfl ?_
    refine ax_callV (b := (ad (0, 0))) (av := []) (rest := [.ref (ad (0, 17))]) (mc' := 1) (ms' := 6) dX6_reduction_5 rfl lkX6_166 (cs_get hi (cs_k0 (by decide))) rfl (Nat.le_of_ble_eq_true rfl) (Nat.le_of_ble_eq_true rfl) (by decide) (by decide) (ch_chosenN hi _ S h (hC.2.2.2.2.2.2.1.trans hs)) (fun E9 h9 q9 => by obtain ⟨e9, rfl⟩ := q9; cases e9; exact ⟨rfl, _, rfl, hC⟩) (fun v9 h9 q9 => ?_)
    cases q9.1
  | some v =>
    obtain ⟨hs1, hf, hv3, e, he, hxo, hrk, hok, hv1, hgx, ht4, hcl, hil, hsz⟩ := sel_ok hC hs
    have e0 : po_reduction σ q = (if q < 0 ∨ nI (sp_red (po_T σ) v).length ≤ q then ((2, 0), σ) else ((0, nI (sp_rk (po_T σ) ((sp_red (po_T σ) v).getD q.toNatClampNeg 0))), σ)) := by unfold po_reduction po_sel; rw [hs]
    rw [e0]
    by_cases hq : q < 0 ∨ nI (sp_red (po_T σ) v).length ≤ q
    · rw [if_pos hq]
      refine ax_aload_n dX6_reduction_0 rfl ?_
      refine ax_get (v := .ref (ad (0, 17))) dX6_reduction_1 fkX6_42 (cs_get hi (cs_k0 (by decide))) rfl ?_
      refine ax_aload_n dX6_reduction_4 rfl ?_
      refine ax_callV (b := (ad (0, 0))) (av := []) (rest := [.ref (ad (0, 17))]) (mc' := 0) (ms' := 0) dX6_reduction_5 rfl lkX6_166 (cs_get hi (cs_k0 (by decide))) rfl (Nat.le_of_ble_eq_true rfl) (Nat.le_of_ble_eq_true rfl) (by decide) (by decide) (ch_chosenY hi _ S h hs1) (fun E9 h9 q9 => by cases q9.1) (fun v9 h9 q9 => ?_)
      obtain ⟨e9, rfl⟩ := q9
      cases e9
      show AW G mX6_reduction (d + 16) 1 6 _ 8 [(0, .ref (ad (0, 0))), (1, .int q)] [.ref (ad (1, v)), .ref (ad (0, 17))] (cs_O ad S h) 0 0
      refine ax_aload_n dX6_reduction_8 rfl ?_
      refine ax_get (v := .ref (ad (0, 6))) dX6_reduction_9 fkX6_21 (cs_get hi (cs_k0 (by decide))) rfl ?_
      refine ax_callV (b := (ad (0, 17))) (av := [.ref (ad (1, v)), .ref (ad (0, 6))]) (rest := []) (mc' := 0) (ms' := 0) dX6_reduction_12 rfl lkX6_193 (cs_get hi (cs_k0 (by decide))) rfl (Nat.le_of_ble_eq_true rfl) (Nat.le_of_ble_eq_true rfl) (by decide) (by decide) (ch_collect hi hC.1 (sp_tab_ty hC.1) _ S h hf he (Q := fun r h1 => r = .inl none ∧ ∃ S', h1 = cs_O ad S' h ∧ st_rs S S' ∧ st_rd (sp_red (po_T σ) v) S') (fun S' a b => ⟨rfl, S', rfl, a, b⟩)) (fun E9 h9 q9 => by cases q9.1) (fun v9 h9 q9 => ?_)
      obtain ⟨e9, S1, rfl, o1, o2⟩ := q9
      cases e9
      show AW G mX6_reduction (d + 16) 1 6 _ 15 [(0, .ref (ad (0, 0))), (1, .int q)] [] (cs_O ad S1 h) 0 0
      refine ax_aload_n dX6_reduction_15 rfl ?_
      refine ax_get (v := .ref (ad (0, 17))) dX6_reduction_16 fkX6_42 (cs_get hi (cs_k0 (by decide))) rfl ?_
      refine ax_iload_n dX6_reduction_19 rfl ?_
      refine ax_callV (b := (ad (0, 17))) (av := [.int q]) (rest := []) (mc' := 0) (ms' := 0) dX6_reduction_20 rfl lkX6_198 (cs_get hi (cs_k0 (by decide))) rfl (Nat.le_of_ble_eq_true rfl) (Nat.le_of_ble_eq_true rfl) (by decide) (by decide) (ch_atN hi _ S1 h o2 hq) (fun E9 h9 q9 => by cases q9.1) (fun v9 h9 q9 => ?_)
      obtain ⟨e9, rfl⟩ := q9
      cases e9
      show AW G mX6_reduction (d + 16) 1 6 _ 23 [(0, .ref (ad (0, 0))), (1, .int q)] [.null] (cs_O ad S1 h) 0 0
      refine ax_astore_nN dX6_reduction_23 (by decide) ?_
      refine ax_sub (lv' := [(0, .ref (ad (0, 0))), (1, .int q), (2, .null)]) (fun _ z => z) ?_
      refine ax_aload_nN dX6_reduction_24 rfl ?_
      refine ax_ifnonnullN dX6_reduction_25 ?_
      exact ax_throw rfl (thIOB (List.mem_of_getElem? (i := 12) rfl)) dX6_reduction_28 dX6_reduction_31 dX6_reduction_32 dX6_reduction_34 dX6_reduction_37 (by decide) (by decide) (by decide) ⟨rfl, S1, rfl, CI_rs hC o1⟩
    · rw [if_neg hq]
      obtain ⟨k, hk, rfl⟩ := nI_of (fun z => hq (Or.inl z))
      have hrl : (sp_red (po_T σ) v).length ≤ 300 := sp_red_len hC.1 hf he
      have hkl : k < (sp_red (po_T σ) v).length := (nI_ltI hk (by omega)).mp (i_not_lt (fun z => hq (Or.inr z)))
      obtain ⟨ew, hw3, hew⟩ := sp_red_in hf he (List.getElem?_eq_getElem hkl)
      have hvw : ∀ S2, st_rs S S2 → cs_vf S2 ((sp_red (po_T σ) v)[k]) 1 = nI (sp_rk (po_T σ) ((sp_red (po_T σ) v)[k])) := fun S2 z => by
        have := ((st_fin_rs z hf).2.2.1.2 _ ew hew).2.1
        have h2 : (po_T σ)[(sp_red (po_T σ) v)[k]]? = some ew := hew
        rw [this]; unfold sp_rk; rw [h2]; rfl
      refine ax_aload_n dX6_reduction_0 rfl ?_
      refine ax_get (v := .ref (ad (0, 17))) dX6_reduction_1 fkX6_42 (cs_get hi (cs_k0 (by decide))) rfl ?_
      refine ax_aload_n dX6_reduction_4 rfl ?_
      refine ax_callV (b := (ad (0, 0))) (av := []) (rest := [.ref (ad (0, 17))]) (mc' := 0) (ms' := 0) dX6_reduction_5 rfl lkX6_166 (cs_get hi (cs_k0 (by decide))) rfl (Nat.le_of_ble_eq_true rfl) (Nat.le_of_ble_eq_true rfl) (by decide) (by decide) (ch_chosenY hi _ S h hs1) (fun E9 h9 q9 => by cases q9.1) (fun v9 h9 q9 => ?_)
      obtain ⟨e9, rfl⟩ := q9
      cases e9
      show AW G mX6_reduction (d + 16) 1 6 _ 8 [(0, .ref (ad (0, 0))), (1, .int (nI k))] [.ref (ad (1, v)), .ref (ad (0, 17))] (cs_O ad S h) 0 0
      refine ax_aload_n dX6_reduction_8 rfl ?_
      refine ax_get (v := .ref (ad (0, 6))) dX6_reduction_9 fkX6_21 (cs_get hi (cs_k0 (by decide))) rfl ?_
      refine ax_callV (b := (ad (0, 17))) (av := [.ref (ad (1, v)), .ref (ad (0, 6))]) (rest := []) (mc' := 0) (ms' := 0) dX6_reduction_12 rfl lkX6_193 (cs_get hi (cs_k0 (by decide))) rfl (Nat.le_of_ble_eq_true rfl) (Nat.le_of_ble_eq_true rfl) (by decide) (by decide) (ch_collect hi hC.1 (sp_tab_ty hC.1) _ S h hf he (Q := fun r h1 => r = .inl none ∧ ∃ S', h1 = cs_O ad S' h ∧ st_rs S S' ∧ st_rd (sp_red (po_T σ) v) S') (fun S' a b => ⟨rfl, S', rfl, a, b⟩)) (fun E9 h9 q9 => by cases q9.1) (fun v9 h9 q9 => ?_)
      obtain ⟨e9, S1, rfl, o1, o2⟩ := q9
      cases e9
      show AW G mX6_reduction (d + 16) 1 6 _ 15 [(0, .ref (ad (0, 0))), (1, .int (nI k))] [] (cs_O ad S1 h) 0 0
      refine ax_aload_n dX6_reduction_15 rfl ?_
      refine ax_get (v := .ref (ad (0, 17))) dX6_reduction_16 fkX6_42 (cs_get hi (cs_k0 (by decide))) rfl ?_
      refine ax_iload_n dX6_reduction_19 rfl ?_
      refine ax_callV (b := (ad (0, 17))) (av := [.int (nI k)]) (rest := []) (mc' := 0) (ms' := 0) dX6_reduction_20 rfl lkX6_198 (cs_get hi (cs_k0 (by decide))) rfl (Nat.le_of_ble_eq_true rfl) (Nat.le_of_ble_eq_true rfl) (by decide) (by decide) (ch_at hi _ S1 h o2 (List.getElem?_eq_getElem hkl)) (fun E9 h9 q9 => by cases q9.1) (fun v9 h9 q9 => ?_)
      obtain ⟨e9, rfl⟩ := q9
      cases e9
      show AW G mX6_reduction (d + 16) 1 6 _ 23 [(0, .ref (ad (0, 0))), (1, .int (nI k))] [.ref (ad (1, (sp_red (po_T σ) v)[k]))] (cs_O ad S1 h) 0 0
      refine ax_astore_n dX6_reduction_23 (by decide) ?_
      refine ax_sub (lv' := [(0, .ref (ad (0, 0))), (1, .int (nI k)), (2, .ref (ad (1, (sp_red (po_T σ) v)[k])))]) (fun _ z => z) ?_
      refine ax_aload_n dX6_reduction_24 rfl ?_
      refine ax_ifnonnull (tgt := 38) dX6_reduction_25 (by decide) ?_
      refine ax_aload_n dX6_reduction_38 rfl ?_
      refine ax_get (v := .int (nI (sp_rk (po_T σ) (sp_red (po_T σ) v)[k]))) dX6_reduction_39 fkX6_163 (cs_get hi (cs_k1 (by omega))) (congrArg (fun z => some (Value.int z)) (hvw S1 o1)) ?_
      refine ax_iret (st := []) dX6_reduction_42 rfl rfl ⟨?_, S1, rfl, CI_rs hC o1⟩
      show _ = Sum.inl (some (Value.int (nI (sp_rk (po_T σ) ((sp_red (po_T σ) v).getD (nI k).toNatClampNeg 0)))))
      rw [nI_clamp hk, List.getD_eq_getElem?_getD, List.getElem?_eq_getElem hkl]; rfl
end PUB3
