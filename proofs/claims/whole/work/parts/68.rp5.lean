/-! ===== the reference's public methods: firstAgainst, select ===== -/
section RP5
variable {G : ax_G} {A : rw_Ad}

set_option maxRecDepth 100000 in
set_option maxHeartbeats 4000000 in
theorem r_choose (hA : rw_nd A) (d : Nat) (R : rw_S) (h : ax_H) (a b : Int32) : AW G mX7_choose d 0 0 (fun r h1 => r = .inl none ∧ h1 = rw_O A (rw_setS (rw_setS R 10 a) 11 b) h) 0 [(0, .ref (A.1 0)), (1, .int a), (2, .int b)] [] (rw_O A R h) 0 0 := by
  refine ax_aload_n dX7_choose_0 rfl ?_
  refine ax_iload_n dX7_choose_1 rfl ?_
  refine ax_put dX7_choose_2 fpX7_26 (rw_g0 hA) rfl rfl (Nat.le_of_ble_eq_true rfl) ?_
  refine ax_eqh (rw_ps10 hA) ?_
  refine ax_aload_n dX7_choose_5 rfl ?_
  refine ax_iload_n dX7_choose_6 rfl ?_
  refine ax_put dX7_choose_7 fpX7_149 (rw_g0 hA) rfl rfl (Nat.le_of_ble_eq_true rfl) ?_
  refine ax_eqh (rw_ps11 hA) ?_
  exact ax_vret (st := []) dX7_choose_10 rfl ⟨rfl, rfl⟩
theorem RI_sel {σ : sp_St} {R : rw_S} {h : ax_H} (hR : RI A σ R h) (h12 : R.1 12 = 1) {v : Nat} (hv : v < (po_T σ).length) : RI A (σ.1, σ.2.1, some v) (rw_setS (rw_setS R 10 (nI (sp_tp (po_T σ) v))) 11 (nI (sp_rk (po_T σ) v))) h := by
  obtain ⟨r1, r2, r3, r4, r5⟩ := hR
  exact ⟨r1, r2, r3, r4, hv, rfl, rfl, h12⟩

set_option maxRecDepth 100000 in
set_option maxHeartbeats 4000000 in
theorem rb_select (hA : rw_nd A) (d : Nat) (R : rw_S) (h : ax_H) {σ : sp_St} (hR : RI A σ R h) (t : Int32) (n : Int32) : AW G mX7_select (d + 48) (rw_bC (po_ws σ t n) R σ.1) (rw_bS (po_ws σ t n) R σ.1) (rb_QW A h (po_select σ t n) (po_ws σ t n)) 0 [(0, .ref (A.1 0)), (1, .int t), (2, .int n)] [] (rw_O A R h) 0 0 := by
  cases hk1 : po_isT σ t with
  | false =>
    rw [show po_select σ t n = ((1, 0), σ) from if_pos hk1]
    refine ax_aload_n dX7_select_0 rfl ?_
    refine ax_iconst (v := 0) dX7_select_1 (by decide) ?_
    refine ax_put dX7_select_2 fpX7_52 (rw_g0 hA) rfl rfl (Nat.le_of_ble_eq_true rfl) ?_
    refine ax_eqh (rw_ps0 hA) ?_
    refine ax_aload_n dX7_select_5 rfl ?_
    refine ax_iload_n dX7_select_6 rfl ?_
    refine ax_callV (b := (A.1 0)) (av := [.int t]) (rest := []) (mc' := 0) (ms' := 0) dX7_select_7 rfl lkX7_76 (rw_g0 hA) rfl (Nat.le_of_ble_eq_true rfl) (Nat.le_of_ble_eq_true rfl) (by omega) (by omega) (r_isType hA _ (rw_setS R 0 0) h t (σ := σ) hR.2.1.2.2.1 hR.1.2.2.1) (fun E9 h9 q9 => by cases q9.1) (fun v9 h9 q9 => ?_)
    obtain ⟨e9, rfl⟩ := q9
    cases e9
    show AW G mX7_select (d + 48) (rw_bC (po_ws σ t n) R σ.1) (rw_bS (po_ws σ t n) R σ.1) _ 10 [(0, .ref (A.1 0)), (1, .int t), (2, .int n)] [.int (if po_isT σ t then 1 else 0)] (rw_O A (rw_setS R 0 0) h) 0 0
    refine ax_if_eq (tgt := 17) dX7_select_10 (by decide) (fun _ => ?_) (fun z => absurd (by rw [hk1]; decide) z)
    refine ax_aload_n dX7_select_17 rfl ?_
    refine ax_iconst (v := 1) dX7_select_18 (by decide) ?_
    refine ax_callV (b := (A.1 0)) (av := [.int 1]) (rest := []) (mc' := 0) (ms' := 0) dX7_select_19 rfl lkX7_72 (rw_g0 hA) rfl (Nat.le_of_ble_eq_true rfl) (Nat.le_of_ble_eq_true rfl) (by omega) (by omega) (r_fail hA _ (rw_setS R 0 0) h 1) (fun E9 h9 q9 => by cases q9.1) (fun v9 h9 q9 => ?_)
    obtain ⟨e9, rfl⟩ := q9
    cases e9
    show AW G mX7_select (d + 48) (rw_bC (po_ws σ t n) R σ.1) (rw_bS (po_ws σ t n) R σ.1) _ 22 [(0, .ref (A.1 0)), (1, .int t), (2, .int n)] [.int 0] (rw_O A (rw_setS (rw_setS R 0 0) 0 1) h) 0 0
    exact ax_iret (st := []) dX7_select_22 rfl rfl ⟨_, h, _, rfl, rfl, hx_rfl h, RI_s0 1 (RI_s0 0 hR), rfl, fun z => Nat.noConfusion z, fun z => by unfold po_ws at z; rw [hk1] at z; exact absurd z (by simp)⟩
  | true =>
    obtain ⟨tn, rfl, -, ht4⟩ := po_isT_nat hR.1 hk1
    by_cases hn0 : n < 0
    · rw [show po_select σ (nI tn) n = ((1, 0), σ) from (if_neg (by rw [hk1]; decide)).trans (if_pos hn0)]
      refine ax_aload_n dX7_select_0 rfl ?_
      refine ax_iconst (v := 0) dX7_select_1 (by decide) ?_
      refine ax_put dX7_select_2 fpX7_52 (rw_g0 hA) rfl rfl (Nat.le_of_ble_eq_true rfl) ?_
      refine ax_eqh (rw_ps0 hA) ?_
      refine ax_aload_n dX7_select_5 rfl ?_
      refine ax_iload_n dX7_select_6 rfl ?_
      refine ax_callV (b := (A.1 0)) (av := [.int (nI tn)]) (rest := []) (mc' := 0) (ms' := 0) dX7_select_7 rfl lkX7_76 (rw_g0 hA) rfl (Nat.le_of_ble_eq_true rfl) (Nat.le_of_ble_eq_true rfl) (by omega) (by omega) (r_isType hA _ (rw_setS R 0 0) h (nI tn) (σ := σ) hR.2.1.2.2.1 hR.1.2.2.1) (fun E9 h9 q9 => by cases q9.1) (fun v9 h9 q9 => ?_)
      obtain ⟨e9, rfl⟩ := q9
      cases e9
      show AW G mX7_select (d + 48) (rw_bC (po_ws σ (nI tn) n) R σ.1) (rw_bS (po_ws σ (nI tn) n) R σ.1) _ 10 [(0, .ref (A.1 0)), (1, .int (nI tn)), (2, .int n)] [.int (if po_isT σ (nI tn) then 1 else 0)] (rw_O A (rw_setS R 0 0) h) 0 0
      refine ax_if_eq (tgt := 17) dX7_select_10 (by decide) (fun z => absurd z (by rw [hk1]; decide)) (fun _ => ?_)
      refine ax_iload_n dX7_select_13 rfl ?_
      refine ax_if_ge (tgt := 23) dX7_select_14 (by decide) (fun z => absurd z (i_lt_not hn0)) (fun _ => ?_)
      refine ax_aload_n dX7_select_17 rfl ?_
      refine ax_iconst (v := 1) dX7_select_18 (by decide) ?_
      refine ax_callV (b := (A.1 0)) (av := [.int 1]) (rest := []) (mc' := 0) (ms' := 0) dX7_select_19 rfl lkX7_72 (rw_g0 hA) rfl (Nat.le_of_ble_eq_true rfl) (Nat.le_of_ble_eq_true rfl) (by omega) (by omega) (r_fail hA _ (rw_setS R 0 0) h 1) (fun E9 h9 q9 => by cases q9.1) (fun v9 h9 q9 => ?_)
      obtain ⟨e9, rfl⟩ := q9
      cases e9
      show AW G mX7_select (d + 48) (rw_bC (po_ws σ (nI tn) n) R σ.1) (rw_bS (po_ws σ (nI tn) n) R σ.1) _ 22 [(0, .ref (A.1 0)), (1, .int (nI tn)), (2, .int n)] [.int 0] (rw_O A (rw_setS (rw_setS R 0 0) 0 1) h) 0 0
      exact ax_iret (st := []) dX7_select_22 rfl rfl ⟨_, h, _, rfl, rfl, hx_rfl h, RI_s0 1 (RI_s0 0 hR), rfl, fun z => Nat.noConfusion z, fun z => by unfold po_ws at z; rw [hk1, decide_eq_true hn0] at z; exact absurd z (by simp)⟩
    · obtain ⟨hbC, hbS⟩ := rw_bT (w := po_ws σ (nI tn) n) (by unfold po_ws; rw [hk1, decide_eq_false hn0]; rfl) R σ.1
      obtain ⟨k, hk, rfl⟩ := nI_of hn0
      have hT := tb_ok hR.1
      have hc3 : sp_cnt (po_T σ) tn ≤ 300 := Nat.le_trans (sp_cnt_le _ _) hT.1.1
      have hH8 : po_H σ ≤ 8 := hT.2.2.2
      cases hw : (sp_of (po_T σ) tn)[k]? with
      | none =>
        have hl : sp_cnt (po_T σ) tn ≤ k := by rw [← sp_of_len]; exact List.getElem?_eq_none_iff.mp hw
        have e0 : po_select σ (nI tn) (nI k) = ((if po_H σ = 8 then 1 else 2, 0), σ) := by
          unfold po_select
          rw [if_neg (by rw [hk1]; decide), if_neg hn0, nI_clamp (by omega), nI_clamp hk, hw]
        rw [e0]
        by_cases h8 : po_H σ = 8
        · rw [if_pos h8]
          refine ax_aload_n dX7_select_0 rfl ?_
          refine ax_iconst (v := 0) dX7_select_1 (by decide) ?_
          refine ax_put dX7_select_2 fpX7_52 (rw_g0 hA) rfl rfl (Nat.le_of_ble_eq_true rfl) ?_
          refine ax_eqh (rw_ps0 hA) ?_
          refine ax_aload_n dX7_select_5 rfl ?_
          refine ax_iload_n dX7_select_6 rfl ?_
          refine ax_callV (b := (A.1 0)) (av := [.int (nI tn)]) (rest := []) (mc' := 0) (ms' := 0) dX7_select_7 rfl lkX7_76 (rw_g0 hA) rfl (Nat.le_of_ble_eq_true rfl) (Nat.le_of_ble_eq_true rfl) (by omega) (by omega) (r_isType hA _ (rw_setS R 0 0) h (nI tn) (σ := σ) hR.2.1.2.2.1 hR.1.2.2.1) (fun E9 h9 q9 => by cases q9.1) (fun v9 h9 q9 => ?_)
          obtain ⟨e9, rfl⟩ := q9
          cases e9
          show AW G mX7_select (d + 48) (rw_bC (po_ws σ (nI tn) (nI k)) R σ.1) (rw_bS (po_ws σ (nI tn) (nI k)) R σ.1) _ 10 [(0, .ref (A.1 0)), (1, .int (nI tn)), (2, .int (nI k))] [.int (if po_isT σ (nI tn) then 1 else 0)] (rw_O A (rw_setS R 0 0) h) 0 0
          refine ax_if_eq (tgt := 17) dX7_select_10 (by decide) (fun z => absurd z (by rw [hk1]; decide)) (fun _ => ?_)
          refine ax_iload_n dX7_select_13 rfl ?_
          refine ax_if_ge (tgt := 23) dX7_select_14 (by decide) (fun _ => ?_) (fun z => absurd (i_not_le hn0) z)
          refine ax_aload_n dX7_select_23 rfl ?_
          refine ax_callV (b := (A.1 0)) (av := []) (rest := []) (mc' := (rm_C R σ.1)) (ms' := (rm_S R σ.1)) dX7_select_24 rfl lkX7_137 (rw_g0 hA) rfl (Nat.le_of_ble_eq_true rfl) (Nat.le_of_ble_eq_true rfl) (by omega) (by omega) (r_mk hA _ (rw_setS R 0 0) h (RI_s0 0 hR) (Q := fun r h9 => r = .inl none ∧ ∃ R' h', h9 = rw_O A R' h' ∧ RI A σ R' h' ∧ rw_T A R' h' (po_T σ) ∧ R'.1 13 = nI (po_H σ) ∧ R'.1 12 = 1 ∧ rw_fm (rw_setS R 0 0) R' ∧ hx_le h h') (fun R' h' a b c d e f => ⟨rfl, R', h', rfl, a, b, c, d, e, f⟩)) (fun E9 h9 q9 => by cases q9.1) (fun v9 h9 q9 => ?_)
          obtain ⟨e9, R1, h1, rfl, m1, m2, m3, m4, m5, m6⟩ := q9
          cases e9
          have h0 : R1.1 0 = 0 := (m5.1 0 (by decide) (by decide) (by decide) (by decide) (by decide)).trans rfl
          show AW G mX7_select (d + 48) (rw_bC (po_ws σ (nI tn) (nI k)) R σ.1) (rw_bS (po_ws σ (nI tn) (nI k)) R σ.1) _ 27 [(0, .ref (A.1 0)), (1, .int (nI tn)), (2, .int (nI k))] [] (rw_O A R1 h1) (0 + (rm_C R σ.1)) (0 + (rm_S R σ.1))
          refine ax_iload_n dX7_select_27 rfl ?_
          refine ax_aload_n dX7_select_28 rfl ?_
          refine ax_get (v := .ref (A.1 8)) dX7_select_29 fkX7_40 (rw_g0 hA) rfl ?_
          refine ax_iload_n dX7_select_32 rfl ?_
          refine ax_ialdv (x := (nI (sp_cnt (po_T σ) tn))) dX7_select_33 (rw_g8 hA) (nI_in ht4 (by decide)) (by rw [nI_clamp (by omega)]; exact m2.2.1 tn ht4) ?_
          refine ax_icmp_lt (tgt := 56) dX7_select_34 (by decide) (fun z => absurd z (nI_nlt hl hk)) (fun _ => ?_)
          refine ax_aload_n dX7_select_37 rfl ?_
          refine ax_aload_n dX7_select_38 rfl ?_
          refine ax_get (v := .int (nI (po_H σ))) dX7_select_39 fkX7_130 (rw_g0 hA) (congrArg (fun z => some (Value.int z)) (m3)) ?_
          refine ax_bipush (v := 8) dX7_select_42 (by decide) ?_
          refine ax_icmp_ne (tgt := 51) dX7_select_44 (by decide) (fun z => absurd (by rw [h8]; decide) z) (fun _ => ?_)
          refine ax_iconst (v := 1) dX7_select_47 (by decide) ?_
          refine ax_goto (tgt := 52) dX7_select_48 (by decide) ?_
          refine ax_callV (b := (A.1 0)) (av := [.int 1]) (rest := []) (mc' := 0) (ms' := 0) dX7_select_52 rfl lkX7_72 (rw_g0 hA) rfl (Nat.le_of_ble_eq_true rfl) (Nat.le_of_ble_eq_true rfl) (by omega) (by omega) (r_fail hA _ R1 h1 1) (fun E9 h9 q9 => by cases q9.1) (fun v9 h9 q9 => ?_)
          obtain ⟨e9, rfl⟩ := q9
          cases e9
          show AW G mX7_select (d + 48) (rw_bC (po_ws σ (nI tn) (nI k)) R σ.1) (rw_bS (po_ws σ (nI tn) (nI k)) R σ.1) _ 55 [(0, .ref (A.1 0)), (1, .int (nI tn)), (2, .int (nI k))] [.int 0] (rw_O A (rw_setS R1 0 1) h1) (0 + (rm_C R σ.1)) (0 + (rm_S R σ.1))
          exact ax_iret (st := []) dX7_select_55 rfl rfl ⟨_, h1, _, rfl, rfl, m6, RI_s0 1 m1, rfl, fun z => Nat.noConfusion z, fun _ => m4⟩
        · rw [if_neg h8]
          refine ax_aload_n dX7_select_0 rfl ?_
          refine ax_iconst (v := 0) dX7_select_1 (by decide) ?_
          refine ax_put dX7_select_2 fpX7_52 (rw_g0 hA) rfl rfl (Nat.le_of_ble_eq_true rfl) ?_
          refine ax_eqh (rw_ps0 hA) ?_
          refine ax_aload_n dX7_select_5 rfl ?_
          refine ax_iload_n dX7_select_6 rfl ?_
          refine ax_callV (b := (A.1 0)) (av := [.int (nI tn)]) (rest := []) (mc' := 0) (ms' := 0) dX7_select_7 rfl lkX7_76 (rw_g0 hA) rfl (Nat.le_of_ble_eq_true rfl) (Nat.le_of_ble_eq_true rfl) (by omega) (by omega) (r_isType hA _ (rw_setS R 0 0) h (nI tn) (σ := σ) hR.2.1.2.2.1 hR.1.2.2.1) (fun E9 h9 q9 => by cases q9.1) (fun v9 h9 q9 => ?_)
          obtain ⟨e9, rfl⟩ := q9
          cases e9
          show AW G mX7_select (d + 48) (rw_bC (po_ws σ (nI tn) (nI k)) R σ.1) (rw_bS (po_ws σ (nI tn) (nI k)) R σ.1) _ 10 [(0, .ref (A.1 0)), (1, .int (nI tn)), (2, .int (nI k))] [.int (if po_isT σ (nI tn) then 1 else 0)] (rw_O A (rw_setS R 0 0) h) 0 0
          refine ax_if_eq (tgt := 17) dX7_select_10 (by decide) (fun z => absurd z (by rw [hk1]; decide)) (fun _ => ?_)
          refine ax_iload_n dX7_select_13 rfl ?_
          refine ax_if_ge (tgt := 23) dX7_select_14 (by decide) (fun _ => ?_) (fun z => absurd (i_not_le hn0) z)
          refine ax_aload_n dX7_select_23 rfl ?_
          refine ax_callV (b := (A.1 0)) (av := []) (rest := []) (mc' := (rm_C R σ.1)) (ms' := (rm_S R σ.1)) dX7_select_24 rfl lkX7_137 (rw_g0 hA) rfl (Nat.le_of_ble_eq_true rfl) (Nat.le_of_ble_eq_true rfl) (by omega) (by omega) (r_mk hA _ (rw_setS R 0 0) h (RI_s0 0 hR) (Q := fun r h9 => r = .inl none ∧ ∃ R' h', h9 = rw_O A R' h' ∧ RI A σ R' h' ∧ rw_T A R' h' (po_T σ) ∧ R'.1 13 = nI (po_H σ) ∧ R'.1 12 = 1 ∧ rw_fm (rw_setS R 0 0) R' ∧ hx_le h h') (fun R' h' a b c d e f => ⟨rfl, R', h', rfl, a, b, c, d, e, f⟩)) (fun E9 h9 q9 => by cases q9.1) (fun v9 h9 q9 => ?_)
          obtain ⟨e9, R1, h1, rfl, m1, m2, m3, m4, m5, m6⟩ := q9
          cases e9
          have h0 : R1.1 0 = 0 := (m5.1 0 (by decide) (by decide) (by decide) (by decide) (by decide)).trans rfl
          show AW G mX7_select (d + 48) (rw_bC (po_ws σ (nI tn) (nI k)) R σ.1) (rw_bS (po_ws σ (nI tn) (nI k)) R σ.1) _ 27 [(0, .ref (A.1 0)), (1, .int (nI tn)), (2, .int (nI k))] [] (rw_O A R1 h1) (0 + (rm_C R σ.1)) (0 + (rm_S R σ.1))
          refine ax_iload_n dX7_select_27 rfl ?_
          refine ax_aload_n dX7_select_28 rfl ?_
          refine ax_get (v := .ref (A.1 8)) dX7_select_29 fkX7_40 (rw_g0 hA) rfl ?_
          refine ax_iload_n dX7_select_32 rfl ?_
          refine ax_ialdv (x := (nI (sp_cnt (po_T σ) tn))) dX7_select_33 (rw_g8 hA) (nI_in ht4 (by decide)) (by rw [nI_clamp (by omega)]; exact m2.2.1 tn ht4) ?_
          refine ax_icmp_lt (tgt := 56) dX7_select_34 (by decide) (fun z => absurd z (nI_nlt hl hk)) (fun _ => ?_)
          refine ax_aload_n dX7_select_37 rfl ?_
          refine ax_aload_n dX7_select_38 rfl ?_
          refine ax_get (v := .int (nI (po_H σ))) dX7_select_39 fkX7_130 (rw_g0 hA) (congrArg (fun z => some (Value.int z)) (m3)) ?_
          refine ax_bipush (v := 8) dX7_select_42 (by decide) ?_
          refine ax_icmp_ne (tgt := 51) dX7_select_44 (by decide) (fun _ => ?_) (fun z => absurd z (il_ne (po_H σ) 8 h8))
          refine ax_iconst (v := 2) dX7_select_51 (by decide) ?_
          refine ax_callV (b := (A.1 0)) (av := [.int 2]) (rest := []) (mc' := 0) (ms' := 0) dX7_select_52 rfl lkX7_72 (rw_g0 hA) rfl (Nat.le_of_ble_eq_true rfl) (Nat.le_of_ble_eq_true rfl) (by omega) (by omega) (r_fail hA _ R1 h1 2) (fun E9 h9 q9 => by cases q9.1) (fun v9 h9 q9 => ?_)
          obtain ⟨e9, rfl⟩ := q9
          cases e9
          show AW G mX7_select (d + 48) (rw_bC (po_ws σ (nI tn) (nI k)) R σ.1) (rw_bS (po_ws σ (nI tn) (nI k)) R σ.1) _ 55 [(0, .ref (A.1 0)), (1, .int (nI tn)), (2, .int (nI k))] [.int 0] (rw_O A (rw_setS R1 0 2) h1) (0 + (rm_C R σ.1)) (0 + (rm_S R σ.1))
          exact ax_iret (st := []) dX7_select_55 rfl rfl ⟨_, h1, _, rfl, rfl, m6, RI_s0 2 m1, rfl, fun z => Nat.noConfusion z, fun _ => m4⟩
      | some w =>
        have hl : k < sp_cnt (po_T σ) tn := by rw [← sp_of_len]; exact (List.getElem?_eq_some_iff.mp hw).1
        have e0 : po_select σ (nI tn) (nI k) = ((0, nI (1 + sp_size (sp_xo (po_T σ) w))), (σ.1, σ.2.1, some w)) := by
          unfold po_select
          rw [if_neg (by rw [hk1]; decide), if_neg hn0, nI_clamp (by omega), nI_clamp hk, hw]
        rw [e0]
        obtain ⟨g1, g2, g3⟩ := sp_rk_of hw
        refine ax_aload_n dX7_select_0 rfl ?_
        refine ax_iconst (v := 0) dX7_select_1 (by decide) ?_
        refine ax_put dX7_select_2 fpX7_52 (rw_g0 hA) rfl rfl (Nat.le_of_ble_eq_true rfl) ?_
        refine ax_eqh (rw_ps0 hA) ?_
        refine ax_aload_n dX7_select_5 rfl ?_
        refine ax_iload_n dX7_select_6 rfl ?_
        refine ax_callV (b := (A.1 0)) (av := [.int (nI tn)]) (rest := []) (mc' := 0) (ms' := 0) dX7_select_7 rfl lkX7_76 (rw_g0 hA) rfl (Nat.le_of_ble_eq_true rfl) (Nat.le_of_ble_eq_true rfl) (by omega) (by omega) (r_isType hA _ (rw_setS R 0 0) h (nI tn) (σ := σ) hR.2.1.2.2.1 hR.1.2.2.1) (fun E9 h9 q9 => by cases q9.1) (fun v9 h9 q9 => ?_)
        obtain ⟨e9, rfl⟩ := q9
        cases e9
        show AW G mX7_select (d + 48) (rw_bC (po_ws σ (nI tn) (nI k)) R σ.1) (rw_bS (po_ws σ (nI tn) (nI k)) R σ.1) _ 10 [(0, .ref (A.1 0)), (1, .int (nI tn)), (2, .int (nI k))] [.int (if po_isT σ (nI tn) then 1 else 0)] (rw_O A (rw_setS R 0 0) h) 0 0
        refine ax_if_eq (tgt := 17) dX7_select_10 (by decide) (fun z => absurd z (by rw [hk1]; decide)) (fun _ => ?_)
        refine ax_iload_n dX7_select_13 rfl ?_
        refine ax_if_ge (tgt := 23) dX7_select_14 (by decide) (fun _ => ?_) (fun z => absurd (i_not_le hn0) z)
        refine ax_aload_n dX7_select_23 rfl ?_
        refine ax_callV (b := (A.1 0)) (av := []) (rest := []) (mc' := (rm_C R σ.1)) (ms' := (rm_S R σ.1)) dX7_select_24 rfl lkX7_137 (rw_g0 hA) rfl (Nat.le_of_ble_eq_true rfl) (Nat.le_of_ble_eq_true rfl) (by omega) (by omega) (r_mk hA _ (rw_setS R 0 0) h (RI_s0 0 hR) (Q := fun r h9 => r = .inl none ∧ ∃ R' h', h9 = rw_O A R' h' ∧ RI A σ R' h' ∧ rw_T A R' h' (po_T σ) ∧ R'.1 13 = nI (po_H σ) ∧ R'.1 12 = 1 ∧ rw_fm (rw_setS R 0 0) R' ∧ hx_le h h') (fun R' h' a b c d e f => ⟨rfl, R', h', rfl, a, b, c, d, e, f⟩)) (fun E9 h9 q9 => by cases q9.1) (fun v9 h9 q9 => ?_)
        obtain ⟨e9, R1, h1, rfl, m1, m2, m3, m4, m5, m6⟩ := q9
        cases e9
        have h0 : R1.1 0 = 0 := (m5.1 0 (by decide) (by decide) (by decide) (by decide) (by decide)).trans rfl
        obtain ⟨e, f1, f2, f3, f4, f5, f6, f7, f8, f9, f10, -⟩ := rw_T_at m2 hT.1 hw
        show AW G mX7_select (d + 48) (rw_bC (po_ws σ (nI tn) (nI k)) R σ.1) (rw_bS (po_ws σ (nI tn) (nI k)) R σ.1) _ 27 [(0, .ref (A.1 0)), (1, .int (nI tn)), (2, .int (nI k))] [] (rw_O A R1 h1) (0 + (rm_C R σ.1)) (0 + (rm_S R σ.1))
        refine ax_iload_n dX7_select_27 rfl ?_
        refine ax_aload_n dX7_select_28 rfl ?_
        refine ax_get (v := .ref (A.1 8)) dX7_select_29 fkX7_40 (rw_g0 hA) rfl ?_
        refine ax_iload_n dX7_select_32 rfl ?_
        refine ax_ialdv (x := (nI (sp_cnt (po_T σ) tn))) dX7_select_33 (rw_g8 hA) (nI_in ht4 (by decide)) (by rw [nI_clamp (by omega)]; exact m2.2.1 tn ht4) ?_
        refine ax_icmp_lt (tgt := 56) dX7_select_34 (by decide) (fun _ => ?_) (fun z => absurd (nI_lt hl (by omega)) z)
        refine ax_aload_n dX7_select_56 rfl ?_
        refine ax_iload_n dX7_select_57 rfl ?_
        refine ax_iload_n dX7_select_58 rfl ?_
        refine ax_callV (b := (A.1 0)) (av := [.int (nI tn), .int (nI k)]) (rest := []) (mc' := 0) (ms' := 0) dX7_select_59 rfl lkX7_152 (rw_g0 hA) rfl (Nat.le_of_ble_eq_true rfl) (Nat.le_of_ble_eq_true rfl) (by omega) (by omega) (r_choose hA _ R1 h1 (nI tn) (nI k)) (fun E9 h9 q9 => by cases q9.1) (fun v9 h9 q9 => ?_)
        obtain ⟨e9, rfl⟩ := q9
        cases e9
        show AW G mX7_select (d + 48) (rw_bC (po_ws σ (nI tn) (nI k)) R σ.1) (rw_bS (po_ws σ (nI tn) (nI k)) R σ.1) _ 62 [(0, .ref (A.1 0)), (1, .int (nI tn)), (2, .int (nI k))] [] (rw_O A (rw_setS (rw_setS R1 10 (nI tn)) 11 (nI k)) h1) (0 + (rm_C R σ.1)) (0 + (rm_S R σ.1))
        refine ax_aload_n dX7_select_62 rfl ?_
        refine ax_get (v := .ref (A.1 6)) dX7_select_63 fkX7_34 (rw_g0 hA) rfl ?_
        refine ax_aload_n dX7_select_66 rfl ?_
        refine ax_iload_n dX7_select_67 rfl ?_
        refine ax_iload_n dX7_select_68 rfl ?_
        refine ax_callV (b := (A.1 0)) (av := [.int (nI tn), .int (nI k)]) (rest := [.ref (A.1 6)]) (mc' := 0) (ms' := 0) dX7_select_69 rfl lkX7_110 (rw_g0 hA) rfl (Nat.le_of_ble_eq_true rfl) (Nat.le_of_ble_eq_true rfl) (by omega) (by omega) (r_value hA _ (rw_setS (rw_setS R1 10 (nI tn)) 11 (nI k)) h1 ht4 (by omega) f8) (fun E9 h9 q9 => by cases q9.1) (fun v9 h9 q9 => ?_)
        obtain ⟨e9, rfl⟩ := q9
        cases e9
        show AW G mX7_select (d + 48) (rw_bC (po_ws σ (nI tn) (nI k)) R σ.1) (rw_bS (po_ws σ (nI tn) (nI k)) R σ.1) _ 72 [(0, .ref (A.1 0)), (1, .int (nI tn)), (2, .int (nI k))] [.int (nI w), .ref (A.1 6)] (rw_O A (rw_setS (rw_setS R1 10 (nI tn)) 11 (nI k)) h1) (0 + (rm_C R σ.1)) (0 + (rm_S R σ.1))
        refine ax_ialdv (x := (nI (sp_sz e))) dX7_select_72 (rw_g6 hA) (nI_in f4 (by decide)) (by rw [nI_clamp (by omega)]; exact f9) ?_
        refine ax_iret (st := []) dX7_select_73 rfl rfl ⟨_, h1, _, rfl, rfl, m6, ?_, h0, fun _ => ?_, fun _ => m4⟩
        · have := RI_sel m1 m4 g1
          rw [g2, g3] at this
          exact this
        · show nI (sp_sz e) = nI (1 + sp_size (sp_xo (po_T σ) w))
          unfold sp_xo; rw [f1]; rfl
set_option maxRecDepth 100000 in
set_option maxHeartbeats 4000000 in
theorem fg_turn (hA : rw_nd A) (d mc ms : Nat) (s : Nat → Int32) (R2 : (Nat → Nat → Int32) × (Nat → Option Nat)) (h : ax_H) {cn sn tn p z n r v : Nat} {b : Bool} (hcn : cn ≤ mc) (hsn : sn ≤ ms) (ht4 : tn < 4) (hn : n ≤ 300) (hr : r < n) (hrow : R2.1 9 (300 * tn + r) = nI v) (htr : AW G mX7_isTrueOf (d + 44) 0 0 (fun r h1 => r = .inl (some (.int (if b then 1 else 0))) ∧ ∃ s', lk_fr s s' ∧ h1 = rw_O A (s', R2) h) 0 [(0, .ref (A.1 0)), (1, .int (nI v)), (2, .int (nI p))] [] (rw_O A (s, R2) h) 0 0) {Q : ax_P} (hq : b = false → ∀ s1, lk_fr s s1 → Q (.inl (some (.int (nI r)))) (rw_O A (s1, R2) h)) (kk : b = true → ∀ s1, lk_fr s s1 → AW G mX7_firstAgainst (d + 45) mc ms Q 59 [(0, .ref (A.1 0)), (1, .int (nI tn)), (2, .int (nI p)), (3, .int (nI z)), (4, .int (nI n)), (5, .int (nI (r + 1)))] [] (rw_O A (s1, R2) h) cn sn) : AW G mX7_firstAgainst (d + 45) mc ms Q 59 [(0, .ref (A.1 0)), (1, .int (nI tn)), (2, .int (nI p)), (3, .int (nI z)), (4, .int (nI n)), (5, .int (nI r))] [] (rw_O A (s, R2) h) cn sn := by
  cases hb : b with
  | false =>
    have hcc : (if b then 1 else 0 : Int32) = 0 := by rw [hb]; rfl
    refine ax_iload dX7_firstAgainst_59 rfl ?_
    refine ax_iload dX7_firstAgainst_61 rfl ?_
    refine ax_icmp_ge (tgt := 90) dX7_firstAgainst_63 (by decide) (fun z => absurd z (il_nle n r hr)) (fun _ => ?_)
    refine ax_aload_n dX7_firstAgainst_66 rfl ?_
    refine ax_aload_n dX7_firstAgainst_67 rfl ?_
    refine ax_iload_n dX7_firstAgainst_68 rfl ?_
    refine ax_iload dX7_firstAgainst_69 rfl ?_
    refine ax_callV (b := (A.1 0)) (av := [.int (nI tn), .int (nI r)]) (rest := [.ref (A.1 0)]) (mc' := 0) (ms' := 0) dX7_firstAgainst_71 rfl lkX7_110 (rw_g0 hA) rfl (Nat.le_of_ble_eq_true rfl) (Nat.le_of_ble_eq_true rfl) (by omega) (by omega) (r_value hA _ (s, R2) h (t := tn) (k := r) ht4 (by omega) hrow) (fun E9 h9 q9 => by cases q9.1) (fun v9 h9 q9 => ?_)
    obtain ⟨e9, rfl⟩ := q9
    cases e9
    show AW G mX7_firstAgainst (d + 45) mc ms _ 74 [(0, .ref (A.1 0)), (1, .int (nI tn)), (2, .int (nI p)), (3, .int (nI z)), (4, .int (nI n)), (5, .int (nI r))] [.int (nI v), .ref (A.1 0)] (rw_O A (s, R2) h) cn sn
    refine ax_iload_n dX7_firstAgainst_74 rfl ?_
    refine ax_callV (b := (A.1 0)) (av := [.int (nI v), .int (nI p)]) (rest := []) (mc' := 0) (ms' := 0) dX7_firstAgainst_75 rfl lkX7_146 (rw_g0 hA) rfl (Nat.le_of_ble_eq_true rfl) (Nat.le_of_ble_eq_true rfl) (by omega) (by omega) (htr) (fun E9 h9 q9 => by cases q9.1) (fun v9 h9 q9 => ?_)
    obtain ⟨e9, s1, fr, rfl⟩ := q9
    rw [hcc] at e9
    cases e9
    show AW G mX7_firstAgainst (d + 45) mc ms _ 78 [(0, .ref (A.1 0)), (1, .int (nI tn)), (2, .int (nI p)), (3, .int (nI z)), (4, .int (nI n)), (5, .int (nI r))] [.int 0] (rw_O A (s1, R2) h) cn sn
    refine ax_if_ne (tgt := 84) dX7_firstAgainst_78 (by decide) (fun z => absurd rfl z) (fun _ => ?_)
    refine ax_iload dX7_firstAgainst_81 rfl ?_
    exact ax_iret (st := []) dX7_firstAgainst_83 rfl rfl (hq hb s1 fr)
  | true =>
    have hcc : (if b then 1 else 0 : Int32) = 1 := by rw [hb]; rfl
    refine ax_iload dX7_firstAgainst_59 rfl ?_
    refine ax_iload dX7_firstAgainst_61 rfl ?_
    refine ax_icmp_ge (tgt := 90) dX7_firstAgainst_63 (by decide) (fun z => absurd z (il_nle n r hr)) (fun _ => ?_)
    refine ax_aload_n dX7_firstAgainst_66 rfl ?_
    refine ax_aload_n dX7_firstAgainst_67 rfl ?_
    refine ax_iload_n dX7_firstAgainst_68 rfl ?_
    refine ax_iload dX7_firstAgainst_69 rfl ?_
    refine ax_callV (b := (A.1 0)) (av := [.int (nI tn), .int (nI r)]) (rest := [.ref (A.1 0)]) (mc' := 0) (ms' := 0) dX7_firstAgainst_71 rfl lkX7_110 (rw_g0 hA) rfl (Nat.le_of_ble_eq_true rfl) (Nat.le_of_ble_eq_true rfl) (by omega) (by omega) (r_value hA _ (s, R2) h (t := tn) (k := r) ht4 (by omega) hrow) (fun E9 h9 q9 => by cases q9.1) (fun v9 h9 q9 => ?_)
    obtain ⟨e9, rfl⟩ := q9
    cases e9
    show AW G mX7_firstAgainst (d + 45) mc ms _ 74 [(0, .ref (A.1 0)), (1, .int (nI tn)), (2, .int (nI p)), (3, .int (nI z)), (4, .int (nI n)), (5, .int (nI r))] [.int (nI v), .ref (A.1 0)] (rw_O A (s, R2) h) cn sn
    refine ax_iload_n dX7_firstAgainst_74 rfl ?_
    refine ax_callV (b := (A.1 0)) (av := [.int (nI v), .int (nI p)]) (rest := []) (mc' := 0) (ms' := 0) dX7_firstAgainst_75 rfl lkX7_146 (rw_g0 hA) rfl (Nat.le_of_ble_eq_true rfl) (Nat.le_of_ble_eq_true rfl) (by omega) (by omega) (htr) (fun E9 h9 q9 => by cases q9.1) (fun v9 h9 q9 => ?_)
    obtain ⟨e9, s1, fr, rfl⟩ := q9
    rw [hcc] at e9
    cases e9
    show AW G mX7_firstAgainst (d + 45) mc ms _ 78 [(0, .ref (A.1 0)), (1, .int (nI tn)), (2, .int (nI p)), (3, .int (nI z)), (4, .int (nI n)), (5, .int (nI r))] [.int 1] (rw_O A (s1, R2) h) cn sn
    refine ax_if_ne (tgt := 84) dX7_firstAgainst_78 (by decide) (fun _ => ?_) (fun z => absurd z (by decide))
    refine ax_iinc (v := (nI (r + 1))) dX7_firstAgainst_84 rfl (nI_1 r) (by decide) ?_
    refine ax_sub (lv' := [(0, .ref (A.1 0)), (1, .int (nI tn)), (2, .int (nI p)), (3, .int (nI z)), (4, .int (nI n)), (5, .int (nI (r + 1)))]) (fun _ z => z) ?_
    refine ax_goto (tgt := 59) dX7_firstAgainst_87 (by decide) ?_
    exact kk hb s1 fr
theorem fg_end (hA : rw_nd A) (d mc ms : Nat) (s : Nat → Int32) (R2 : (Nat → Nat → Int32) × (Nat → Option Nat)) (h : ax_H) {cn sn tn p z n : Nat} (hn : n ≤ 300) {Q : ax_P} (hq : Q (.inl (some (.int (-1)))) (rw_O A (s, R2) h)) : AW G mX7_firstAgainst (d + 45) mc ms Q 59 [(0, .ref (A.1 0)), (1, .int (nI tn)), (2, .int (nI p)), (3, .int (nI z)), (4, .int (nI n)), (5, .int (nI n))] [] (rw_O A (s, R2) h) cn sn := by
  refine ax_iload dX7_firstAgainst_59 rfl ?_
  refine ax_iload dX7_firstAgainst_61 rfl ?_
  refine ax_icmp_ge (tgt := 90) dX7_firstAgainst_63 (by decide) (fun _ => ?_) (fun z => absurd (il_le n n (Nat.le_refl _)) z)
  refine ax_iconst (v := (-1)) dX7_firstAgainst_90 (by decide) ?_
  exact ax_iret (st := []) dX7_firstAgainst_91 rfl rfl hq
theorem fg_loop (hA : rw_nd A) {g : sp_G} (hw : sp_wg g) (d mc ms : Nat) (s : Nat → Int32) (R2 : (Nat → Nat → Int32) × (Nat → Option Nat)) (h : ax_H) (hg : rw_gr (s, R2) g) {T : List sp_E} (hT : rw_T A (s, R2) h T) (hwT : sp_wT T) (hty : sp_ty g T) {cn sn tn p z n : Nat} (hcn : cn ≤ mc) (hsn : sn ≤ ms) (ht4 : tn < 4) (hp5 : p ≤ 5) (hn : n ≤ sp_cnt T tn) {Q : ax_P} (hq : ∀ s1, lk_fr s s1 → Q (.inl (some (.int (po_fst T tn p n)))) (rw_O A (s1, R2) h)) : ∀ (i r : Nat) (s1 : Nat → Int32), r + i = n → lk_fr s s1 → (∀ j, j < r → po_unfit T p (po_at T tn j) = false) → AW G mX7_firstAgainst (d + 45) mc ms Q 59 [(0, .ref (A.1 0)), (1, .int (nI tn)), (2, .int (nI p)), (3, .int (nI z)), (4, .int (nI n)), (5, .int (nI r))] [] (rw_O A (s1, R2) h) cn sn := by
  have hT1 := hwT.1
  have hc3 := sp_cnt_le T tn
  intro i
  induction i with
  | zero =>
    intro r s1 hr fr hall
    have hr : r = n := by omega
    subst hr
    refine fg_end hA d mc ms s1 R2 h (by omega) ?_
    have : po_fst T tn p r = -1 := by
      unfold po_fst
      rw [List.find?_range_eq_none.mpr (fun j hj => by rw [hall j hj]; rfl)]
    rw [← this]; exact hq s1 fr
  | succ i ih =>
    intro r s1 hr fr hall
    have hl : r < (sp_of T tn).length := by rw [sp_of_len]; omega
    have hwr : (sp_of T tn)[r]? = some (sp_of T tn)[r] := List.getElem?_eq_getElem hl
    have hfx : rw_fx (s, R2) (s1, R2) := ⟨fun i _ x y _ => fr i x y, fun _ _ _ => rfl, rfl⟩
    have hT' := rw_fx_T hfx hT
    obtain ⟨e, f1, f2, f3, f4, f5, f6, f7, f8, -⟩ := rw_T_at hT' hwT hwr
    have hat : po_at T tn r = (sp_of T tn)[r] := by unfold po_at; rw [hwr]; rfl
    have hxo : sp_xo T (sp_of T tn)[r] = e.2.2 := by unfold sp_xo; rw [f1]
    have hun : po_unfit T p (po_at T tn r) = !sp_cond p e.2.2 := by unfold po_unfit; rw [hat, hxo]
    refine fg_turn hA d mc ms s1 R2 h (b := sp_cond p e.2.2) hcn hsn ht4 (by omega) (by omega) f8 (r_trueOf hA hw (d + 43) (by omega) (s1, R2) h (rw_fx_g hfx hg) hT' hwT hty f1 hp5 (fun s' z => ⟨rfl, s', z, rfl⟩)) (fun hc s2 fr2 => ?_) (fun hc s2 fr2 => ?_)
    · have : po_fst T tn p n = nI r := by
        unfold po_fst
        rw [List.find?_range_eq_some.mpr ⟨by rw [hun, hc]; rfl, List.mem_range.mpr (by omega), fun j hj => by rw [hall j hj]; rfl⟩]
      rw [← this]; exact hq s2 (lk_fr_tr fr fr2)
    · refine ih (r + 1) s2 (by omega) (lk_fr_tr fr fr2) (fun j hj => ?_)
      by_cases hjr : j = r
      · subst hjr; rw [hun, hc]; rfl
      · exact hall j (by omega)

set_option maxRecDepth 100000 in
set_option maxHeartbeats 4000000 in
theorem rb_against (hA : rw_nd A) (d : Nat) (R : rw_S) (h : ax_H) {σ : sp_St} (hR : RI A σ R h) (t : Int32) (p : Int32) (s : Int32) : AW G mX7_firstAgainst (d + 49) (rw_bC (po_wa σ t p s) R σ.1) (rw_bS (po_wa σ t p s) R σ.1) (rb_QW A h (po_against σ t p s) (po_wa σ t p s)) 0 [(0, .ref (A.1 0)), (1, .int t), (2, .int p), (3, .int s)] [] (rw_O A R h) 0 0 := by
  cases hk1 : po_isT σ t with
  | false =>
    rw [show po_against σ t p s = ((1, _), σ) from congrArg (fun z => ((z, _), σ)) (if_pos hk1)]
    refine ax_aload_n dX7_firstAgainst_0 rfl ?_
    refine ax_aload_n dX7_firstAgainst_1 rfl ?_
    refine ax_iload_n dX7_firstAgainst_2 rfl ?_
    refine ax_callV (b := (A.1 0)) (av := [.int t]) (rest := [.ref (A.1 0)]) (mc' := 0) (ms' := 0) dX7_firstAgainst_3 rfl lkX7_76 (rw_g0 hA) rfl (Nat.le_of_ble_eq_true rfl) (Nat.le_of_ble_eq_true rfl) (by omega) (by omega) (r_isType hA _ R h t (σ := σ) hR.2.1.2.2.1 hR.1.2.2.1) (fun E9 h9 q9 => by cases q9.1) (fun v9 h9 q9 => ?_)
    obtain ⟨e9, rfl⟩ := q9
    cases e9
    show AW G mX7_firstAgainst (d + 49) (rw_bC (po_wa σ t p s) R σ.1) (rw_bS (po_wa σ t p s) R σ.1) _ 6 [(0, .ref (A.1 0)), (1, .int t), (2, .int p), (3, .int s)] [.int (if po_isT σ t then 1 else 0), .ref (A.1 0)] (rw_O A R h) 0 0
    refine ax_if_ne (tgt := 13) dX7_firstAgainst_6 (by decide) (fun z => absurd (by rw [hk1]; decide) z) (fun _ => ?_)
    refine ax_iconst (v := 1) dX7_firstAgainst_9 (by decide) ?_
    refine ax_goto (tgt := 27) dX7_firstAgainst_10 (by decide) ?_
    refine ax_put dX7_firstAgainst_27 fpX7_52 (rw_g0 hA) rfl rfl (Nat.le_of_ble_eq_true rfl) ?_
    refine ax_eqh (rw_ps0 hA) ?_
    refine ax_aload_n dX7_firstAgainst_30 rfl ?_
    refine ax_get (v := .int 1) dX7_firstAgainst_31 fkX7_52 (rw_g0 hA) rfl ?_
    refine ax_if_ne (tgt := 46) dX7_firstAgainst_34 (by decide) (fun _ => ?_) (fun z => absurd z (by decide))
    refine ax_iconst (v := 0) dX7_firstAgainst_46 (by decide) ?_
    exact ax_iret (st := []) dX7_firstAgainst_47 rfl rfl ⟨_, h, _, rfl, rfl, hx_rfl h, RI_s0 1 hR, rfl, fun z => Nat.noConfusion z, fun z => by unfold po_wa po_wm at z; rw [hk1] at z; exact absurd z (by simp)⟩
  | true =>
    by_cases hkp : p < 1 ∨ 5 < p
    · rw [show po_against σ t p s = ((2, _), σ) from congrArg (fun z => ((z, _), σ)) ((if_neg (by rw [hk1]; decide)).trans (if_pos hkp))]
      have hin : ¬ ((1 : Int32) ≤ p ∧ p ≤ 5) := fun z => in_15.mp z hkp
      refine ax_aload_n dX7_firstAgainst_0 rfl ?_
      refine ax_aload_n dX7_firstAgainst_1 rfl ?_
      refine ax_iload_n dX7_firstAgainst_2 rfl ?_
      refine ax_callV (b := (A.1 0)) (av := [.int t]) (rest := [.ref (A.1 0)]) (mc' := 0) (ms' := 0) dX7_firstAgainst_3 rfl lkX7_76 (rw_g0 hA) rfl (Nat.le_of_ble_eq_true rfl) (Nat.le_of_ble_eq_true rfl) (by omega) (by omega) (r_isType hA _ R h t (σ := σ) hR.2.1.2.2.1 hR.1.2.2.1) (fun E9 h9 q9 => by cases q9.1) (fun v9 h9 q9 => ?_)
      obtain ⟨e9, rfl⟩ := q9
      cases e9
      show AW G mX7_firstAgainst (d + 49) (rw_bC (po_wa σ t p s) R σ.1) (rw_bS (po_wa σ t p s) R σ.1) _ 6 [(0, .ref (A.1 0)), (1, .int t), (2, .int p), (3, .int s)] [.int (if po_isT σ t then 1 else 0), .ref (A.1 0)] (rw_O A R h) 0 0
      refine ax_if_ne (tgt := 13) dX7_firstAgainst_6 (by decide) (fun _ => ?_) (fun z => absurd z (by rw [hk1]; decide))
      refine ax_iload_n dX7_firstAgainst_13 rfl ?_
      refine ax_iconst (v := 1) dX7_firstAgainst_14 (by decide) ?_
      refine ax_iconst (v := 5) dX7_firstAgainst_15 (by decide) ?_
      refine ax_callS (av := [.int p, .int 1, .int 5]) (rest := [.ref (A.1 0)]) (mc' := 0) (ms' := 0) dX7_firstAgainst_16 rfl lkX7_58 rfl (Nat.le_of_ble_eq_true rfl) (Nat.le_of_ble_eq_true rfl) (by omega) (by omega) (r_isIn _ _ p 1 5) (fun E9 h9 q9 => by cases q9.1) (fun v9 h9 q9 => ?_)
      obtain ⟨e9, rfl⟩ := q9
      cases e9
      rw [if_neg hin]
      show AW G mX7_firstAgainst (d + 49) (rw_bC (po_wa σ t p s) R σ.1) (rw_bS (po_wa σ t p s) R σ.1) _ 19 [(0, .ref (A.1 0)), (1, .int t), (2, .int p), (3, .int s)] [.int 0, .ref (A.1 0)] (rw_O A R h) 0 0
      refine ax_if_ne (tgt := 26) dX7_firstAgainst_19 (by decide) (fun z => absurd rfl z) (fun _ => ?_)
      refine ax_iconst (v := 2) dX7_firstAgainst_22 (by decide) ?_
      refine ax_goto (tgt := 27) dX7_firstAgainst_23 (by decide) ?_
      refine ax_put dX7_firstAgainst_27 fpX7_52 (rw_g0 hA) rfl rfl (Nat.le_of_ble_eq_true rfl) ?_
      refine ax_eqh (rw_ps0 hA) ?_
      refine ax_aload_n dX7_firstAgainst_30 rfl ?_
      refine ax_get (v := .int 2) dX7_firstAgainst_31 fkX7_52 (rw_g0 hA) rfl ?_
      refine ax_if_ne (tgt := 46) dX7_firstAgainst_34 (by decide) (fun _ => ?_) (fun z => absurd z (by decide))
      refine ax_iconst (v := 0) dX7_firstAgainst_46 (by decide) ?_
      exact ax_iret (st := []) dX7_firstAgainst_47 rfl rfl ⟨_, h, _, rfl, rfl, hx_rfl h, RI_s0 2 hR, rfl, fun z => Nat.noConfusion z, fun z => by unfold po_wa at z; rw [decide_eq_true hkp] at z; exact absurd z (by simp)⟩
    · have hin : (1 : Int32) ≤ p ∧ p ≤ 5 := in_15.mpr hkp
      have hwa : po_wa σ t p s = po_wm σ t s := by unfold po_wa; rw [decide_eq_false hkp]; rfl
      have hbC : rw_bC (po_wm σ t s) R σ.1 ≤ rw_bC (po_wa σ t p s) R σ.1 := by rw [hwa]; exact Nat.le_refl _
      have hbS : rw_bS (po_wm σ t s) R σ.1 ≤ rw_bS (po_wa σ t p s) R σ.1 := by rw [hwa]; exact Nat.le_refl _
      rw [show po_against σ t p s = ((po_asks σ t s, _), σ) from congrArg (fun z => ((z, _), σ)) ((if_neg (by rw [hk1]; decide)).trans (if_neg hkp))]
      by_cases hk : po_asks σ t s = 0
      · have hk2 : ¬ (s < 1 ∨ 8 < s) := fun hb => by
          rw [show po_asks σ t s = 2 from (if_neg (by rw [hk1]; decide)).trans (if_pos hb)] at hk; cases hk
        obtain ⟨tn, rfl, -, ht4⟩ := po_isT_nat hR.1 hk1
        obtain ⟨z, rfl, hz1, hz8⟩ := i_rng hk2
        obtain ⟨p, rfl, hp1, hp5⟩ := i_prp hkp
        refine ax_aload_n dX7_firstAgainst_0 rfl ?_
        refine ax_aload_n dX7_firstAgainst_1 rfl ?_
        refine ax_iload_n dX7_firstAgainst_2 rfl ?_
        refine ax_callV (b := (A.1 0)) (av := [.int (nI tn)]) (rest := [.ref (A.1 0)]) (mc' := 0) (ms' := 0) dX7_firstAgainst_3 rfl lkX7_76 (rw_g0 hA) rfl (Nat.le_of_ble_eq_true rfl) (Nat.le_of_ble_eq_true rfl) (by omega) (by omega) (r_isType hA _ R h (nI tn) (σ := σ) hR.2.1.2.2.1 hR.1.2.2.1) (fun E9 h9 q9 => by cases q9.1) (fun v9 h9 q9 => ?_)
        obtain ⟨e9, rfl⟩ := q9
        cases e9
        show AW G mX7_firstAgainst (d + 49) (rw_bC (po_wa σ (nI tn) (nI p) (nI z)) R σ.1) (rw_bS (po_wa σ (nI tn) (nI p) (nI z)) R σ.1) _ 6 [(0, .ref (A.1 0)), (1, .int (nI tn)), (2, .int (nI p)), (3, .int (nI z))] [.int (if po_isT σ (nI tn) then 1 else 0), .ref (A.1 0)] (rw_O A R h) 0 0
        refine ax_if_ne (tgt := 13) dX7_firstAgainst_6 (by decide) (fun _ => ?_) (fun z => absurd z (by rw [hk1]; decide))
        refine ax_iload_n dX7_firstAgainst_13 rfl ?_
        refine ax_iconst (v := 1) dX7_firstAgainst_14 (by decide) ?_
        refine ax_iconst (v := 5) dX7_firstAgainst_15 (by decide) ?_
        refine ax_callS (av := [.int (nI p), .int 1, .int 5]) (rest := [.ref (A.1 0)]) (mc' := 0) (ms' := 0) dX7_firstAgainst_16 rfl lkX7_58 rfl (Nat.le_of_ble_eq_true rfl) (Nat.le_of_ble_eq_true rfl) (by omega) (by omega) (r_isIn _ _ (nI p) 1 5) (fun E9 h9 q9 => by cases q9.1) (fun v9 h9 q9 => ?_)
        obtain ⟨e9, rfl⟩ := q9
        cases e9
        rw [if_pos hin]
        show AW G mX7_firstAgainst (d + 49) (rw_bC (po_wa σ (nI tn) (nI p) (nI z)) R σ.1) (rw_bS (po_wa σ (nI tn) (nI p) (nI z)) R σ.1) _ 19 [(0, .ref (A.1 0)), (1, .int (nI tn)), (2, .int (nI p)), (3, .int (nI z))] [.int 1, .ref (A.1 0)] (rw_O A R h) 0 0
        refine ax_if_ne (tgt := 26) dX7_firstAgainst_19 (by decide) (fun _ => ?_) (fun z => absurd z (by decide))
        refine ax_iconst (v := 0) dX7_firstAgainst_26 (by decide) ?_
        refine ax_put dX7_firstAgainst_27 fpX7_52 (rw_g0 hA) rfl rfl (Nat.le_of_ble_eq_true rfl) ?_
        refine ax_eqh (rw_ps0 hA) ?_
        refine ax_aload_n dX7_firstAgainst_30 rfl ?_
        refine ax_get (v := .int 0) dX7_firstAgainst_31 fkX7_52 (rw_g0 hA) rfl ?_
        refine ax_if_ne (tgt := 46) dX7_firstAgainst_34 (by decide) (fun z => absurd rfl z) (fun _ => ?_)
        refine ax_aload_n dX7_firstAgainst_37 rfl ?_
        refine ax_iload_n dX7_firstAgainst_38 rfl ?_
        refine ax_iload_n dX7_firstAgainst_39 rfl ?_
        refine ax_callV (b := (A.1 0)) (av := [.int (nI tn), .int (nI z)]) (rest := []) (mc' := (rw_bC (po_wm σ (nI tn) (nI z)) R σ.1)) (ms' := (rw_bS (po_wm σ (nI tn) (nI z)) R σ.1)) dX7_firstAgainst_40 rfl lkX7_140 (rw_g0 hA) rfl (Nat.le_of_ble_eq_true rfl) (Nat.le_of_ble_eq_true rfl) (by omega) (by omega) (rb_asks hA _ (rw_setS R 0 0) h (RI_s0 0 hR) (nI tn) (nI z)) (fun E9 h9 q9 => by obtain ⟨R1, h1, -, -, -, -, e9, -⟩ := q9; cases e9) (fun v9 h9 q9 => ?_)
        obtain ⟨R1, h1, rfl, a1, a2, a3, e9, a4, a5⟩ := q9
        rw [if_pos hk] at e9
        cases e9
        obtain ⟨b1, b2⟩ := a4 hk
        show AW G mX7_firstAgainst (d + 49) (rw_bC (po_wa σ (nI tn) (nI p) (nI z)) R σ.1) (rw_bS (po_wa σ (nI tn) (nI p) (nI z)) R σ.1) _ 43 [(0, .ref (A.1 0)), (1, .int (nI tn)), (2, .int (nI p)), (3, .int (nI z))] [.int 1] (rw_O A R1 h1) (0 + (rw_bC (po_wm σ (nI tn) (nI z)) R σ.1)) (0 + (rw_bS (po_wm σ (nI tn) (nI z)) R σ.1))
        refine ax_if_ne (tgt := 48) dX7_firstAgainst_43 (by decide) (fun _ => ?_) (fun z => absurd z (by decide))
        refine ax_aload_n dX7_firstAgainst_48 rfl ?_
        refine ax_iload_n dX7_firstAgainst_49 rfl ?_
        refine ax_iload_n dX7_firstAgainst_50 rfl ?_
        refine ax_callV (b := (A.1 0)) (av := [.int (nI tn), .int (nI z)]) (rest := []) (mc' := 0) (ms' := 0) dX7_firstAgainst_51 rfl lkX7_143 (rw_g0 hA) rfl (Nat.le_of_ble_eq_true rfl) (Nat.le_of_ble_eq_true rfl) (by omega) (by omega) (r_upTo hA _ R1 h1 b2 (tb_ok hR.1).1 (t := tn) (s := z) ht4 (by omega)) (fun E9 h9 q9 => by cases q9.1) (fun v9 h9 q9 => ?_)
        obtain ⟨e9, rfl⟩ := q9
        cases e9
        show AW G mX7_firstAgainst (d + 49) (rw_bC (po_wa σ (nI tn) (nI p) (nI z)) R σ.1) (rw_bS (po_wa σ (nI tn) (nI p) (nI z)) R σ.1) _ 54 [(0, .ref (A.1 0)), (1, .int (nI tn)), (2, .int (nI p)), (3, .int (nI z))] [.int (nI (sp_upto (po_T σ) tn z))] (rw_O A R1 h1) (0 + (rw_bC (po_wm σ (nI tn) (nI z)) R σ.1)) (0 + (rw_bS (po_wm σ (nI tn) (nI z)) R σ.1))
        refine ax_istore dX7_firstAgainst_54 (by decide) ?_
        refine ax_sub (lv' := [(0, .ref (A.1 0)), (1, .int (nI tn)), (2, .int (nI p)), (3, .int (nI z)), (4, .int (nI (sp_upto (po_T σ) tn z)))]) (fun _ z => z) ?_
        refine ax_iconst (v := 0) dX7_firstAgainst_56 (by decide) ?_
        refine ax_istore dX7_firstAgainst_57 (by decide) ?_
        refine ax_sub (lv' := [(0, .ref (A.1 0)), (1, .int (nI tn)), (2, .int (nI p)), (3, .int (nI z)), (4, .int (nI (sp_upto (po_T σ) tn z))), (5, .int 0)]) (fun _ z => z) ?_
        refine fg_loop hA hR.1 (d + 4) _ _ R1.1 R1.2 h1 a2.2.1 b2 (tb_ok hR.1).1 (sp_tab_ty hR.1) (tn := tn) (p := p) (z := z) (n := sp_upto (po_T σ) tn z) (by omega) (by omega) ht4 hp5 (sp_upto_le _ _ _) (fun s1 fr => ⟨(s1, R1.2), h1, _, rfl, rfl, a1, RI_fx ⟨fun i _ x y _ => fr i x y, fun _ _ _ => rfl, rfl⟩ a2, (fr 0 (by decide) (by decide)).trans a3, fun _ => ?_, fun z => (fr 12 (by decide) (by decide)).trans (a5 (by rw [← hwa]; exact z))⟩) (sp_upto (po_T σ) tn z) 0 R1.1 (by omega) (lk_fr_rfl _) (fun j hj => absurd hj (by omega))
        show _ = po_fst (po_T σ) (nI tn).toNatClampNeg (nI p).toNatClampNeg (po_up σ (nI tn) (nI z).toNatClampNeg)
        unfold po_up
        rw [nI_clamp (by omega), nI_clamp (by omega), nI_clamp (by omega)]
      · refine ax_aload_n dX7_firstAgainst_0 rfl ?_
        refine ax_aload_n dX7_firstAgainst_1 rfl ?_
        refine ax_iload_n dX7_firstAgainst_2 rfl ?_
        refine ax_callV (b := (A.1 0)) (av := [.int t]) (rest := [.ref (A.1 0)]) (mc' := 0) (ms' := 0) dX7_firstAgainst_3 rfl lkX7_76 (rw_g0 hA) rfl (Nat.le_of_ble_eq_true rfl) (Nat.le_of_ble_eq_true rfl) (by omega) (by omega) (r_isType hA _ R h t (σ := σ) hR.2.1.2.2.1 hR.1.2.2.1) (fun E9 h9 q9 => by cases q9.1) (fun v9 h9 q9 => ?_)
        obtain ⟨e9, rfl⟩ := q9
        cases e9
        show AW G mX7_firstAgainst (d + 49) (rw_bC (po_wa σ t p s) R σ.1) (rw_bS (po_wa σ t p s) R σ.1) _ 6 [(0, .ref (A.1 0)), (1, .int t), (2, .int p), (3, .int s)] [.int (if po_isT σ t then 1 else 0), .ref (A.1 0)] (rw_O A R h) 0 0
        refine ax_if_ne (tgt := 13) dX7_firstAgainst_6 (by decide) (fun _ => ?_) (fun z => absurd z (by rw [hk1]; decide))
        refine ax_iload_n dX7_firstAgainst_13 rfl ?_
        refine ax_iconst (v := 1) dX7_firstAgainst_14 (by decide) ?_
        refine ax_iconst (v := 5) dX7_firstAgainst_15 (by decide) ?_
        refine ax_callS (av := [.int p, .int 1, .int 5]) (rest := [.ref (A.1 0)]) (mc' := 0) (ms' := 0) dX7_firstAgainst_16 rfl lkX7_58 rfl (Nat.le_of_ble_eq_true rfl) (Nat.le_of_ble_eq_true rfl) (by omega) (by omega) (r_isIn _ _ p 1 5) (fun E9 h9 q9 => by cases q9.1) (fun v9 h9 q9 => ?_)
        obtain ⟨e9, rfl⟩ := q9
        cases e9
        rw [if_pos hin]
        show AW G mX7_firstAgainst (d + 49) (rw_bC (po_wa σ t p s) R σ.1) (rw_bS (po_wa σ t p s) R σ.1) _ 19 [(0, .ref (A.1 0)), (1, .int t), (2, .int p), (3, .int s)] [.int 1, .ref (A.1 0)] (rw_O A R h) 0 0
        refine ax_if_ne (tgt := 26) dX7_firstAgainst_19 (by decide) (fun _ => ?_) (fun z => absurd z (by decide))
        refine ax_iconst (v := 0) dX7_firstAgainst_26 (by decide) ?_
        refine ax_put dX7_firstAgainst_27 fpX7_52 (rw_g0 hA) rfl rfl (Nat.le_of_ble_eq_true rfl) ?_
        refine ax_eqh (rw_ps0 hA) ?_
        refine ax_aload_n dX7_firstAgainst_30 rfl ?_
        refine ax_get (v := .int 0) dX7_firstAgainst_31 fkX7_52 (rw_g0 hA) rfl ?_
        refine ax_if_ne (tgt := 46) dX7_firstAgainst_34 (by decide) (fun z => absurd rfl z) (fun _ => ?_)
        refine ax_aload_n dX7_firstAgainst_37 rfl ?_
        refine ax_iload_n dX7_firstAgainst_38 rfl ?_
        refine ax_iload_n dX7_firstAgainst_39 rfl ?_
        refine ax_callV (b := (A.1 0)) (av := [.int t, .int s]) (rest := []) (mc' := (rw_bC (po_wm σ t s) R σ.1)) (ms' := (rw_bS (po_wm σ t s) R σ.1)) dX7_firstAgainst_40 rfl lkX7_140 (rw_g0 hA) rfl (Nat.le_of_ble_eq_true rfl) (Nat.le_of_ble_eq_true rfl) (by omega) (by omega) (rb_asks hA _ (rw_setS R 0 0) h (RI_s0 0 hR) t s) (fun E9 h9 q9 => by obtain ⟨R1, h1, -, -, -, -, e9, -⟩ := q9; cases e9) (fun v9 h9 q9 => ?_)
        obtain ⟨R1, h1, rfl, a1, a2, a3, e9, a4, a5⟩ := q9
        rw [if_neg hk] at e9
        cases e9
        show AW G mX7_firstAgainst (d + 49) (rw_bC (po_wa σ t p s) R σ.1) (rw_bS (po_wa σ t p s) R σ.1) _ 43 [(0, .ref (A.1 0)), (1, .int t), (2, .int p), (3, .int s)] [.int 0] (rw_O A R1 h1) (0 + (rw_bC (po_wm σ t s) R σ.1)) (0 + (rw_bS (po_wm σ t s) R σ.1))
        refine ax_if_ne (tgt := 48) dX7_firstAgainst_43 (by decide) (fun z => absurd rfl z) (fun _ => ?_)
        refine ax_iconst (v := 0) dX7_firstAgainst_46 (by decide) ?_
        exact ax_iret (st := []) dX7_firstAgainst_47 rfl rfl ⟨R1, h1, _, rfl, rfl, a1, a2, a3, fun w => absurd w hk, fun z => a5 (by rw [← hwa]; exact z)⟩
end RP5
