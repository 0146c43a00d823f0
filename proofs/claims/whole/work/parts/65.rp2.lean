/-! ===== the reference's public methods: setRange, addType, tell, select ===== -/
theorem RI_chg {A : rw_Ad} {σ σ' : sp_St} {R R' : rw_S} {h h' : ax_H} (hR : RI A σ R h) (hw : sp_wg σ'.1) (hg : rw_gr R' σ'.1) (ha : R'.2.1 4 = R.2.1 4) (h8 : R'.1 8 = R.1 8) (h12 : R'.1 12 = 0) (h10 : R'.1 10 = -1) (ht : σ'.2 = (σ.2.1, none)) : RI A σ' R' h' := by
  obtain ⟨r1, r2, r3, r4, r5⟩ := hR
  refine ⟨hw, hg, ?_, Or.inl h12, ?_⟩
  · rw [ht]; refine ⟨h8.trans r3.1, r3.2.1, ?_, r3.2.2.2⟩; rw [ha]; exact r3.2.2.1
  · rw [ht]; exact h10
section RP2
variable {G : ax_G} {A : rw_Ad}

set_option maxRecDepth 100000 in
set_option maxHeartbeats 4000000 in
theorem rb_setRange (hA : rw_nd A) (d : Nat) (R : rw_S) (h : ax_H) {σ : sp_St} (hR : RI A σ R h) (a : Int32) (b : Int32) : AW G mX7_setRange (d + 48) 0 0 (rb_Q A h (po_setRange σ a b)) 0 [(0, .ref (A.1 0)), (1, .int a), (2, .int b)] [] (rw_O A R h) 0 0 := by
  by_cases h1 : a < 0
  · rw [show po_setRange σ a b = ((1, 0), σ) from if_pos (Or.inl h1)]
    refine ax_aload_n dX7_setRange_0 rfl ?_
    refine ax_iload_n dX7_setRange_1 rfl ?_
    refine ax_if_lt (tgt := 15) dX7_setRange_2 (by decide) (fun _ => ?_) (fun z => absurd h1 z)
    refine ax_iconst (v := 1) dX7_setRange_15 (by decide) ?_
    refine ax_goto (tgt := 20) dX7_setRange_16 (by decide) ?_
    refine ax_put dX7_setRange_20 fpX7_52 (rw_g0 hA) rfl rfl (Nat.le_of_ble_eq_true rfl) ?_
    refine ax_eqh (rw_ps0 hA) ?_
    refine ax_aload_n dX7_setRange_23 rfl ?_
    refine ax_get (v := .int 1) dX7_setRange_24 fkX7_52 (rw_g0 hA) rfl ?_
    refine ax_if_eq (tgt := 32) dX7_setRange_27 (by decide) (fun z => absurd z (by decide)) (fun _ => ?_)
    refine ax_iconst (v := 0) dX7_setRange_30 (by decide) ?_
    exact ax_iret (st := []) dX7_setRange_31 rfl rfl ⟨_, h, _, rfl, rfl, hx_rfl h, RI_s0 1 hR, rfl, fun z => Nat.noConfusion z⟩
  by_cases h2 : 5 < b
  · rw [show po_setRange σ a b = ((1, 0), σ) from if_pos (Or.inr (Or.inl h2))]
    refine ax_aload_n dX7_setRange_0 rfl ?_
    refine ax_iload_n dX7_setRange_1 rfl ?_
    refine ax_if_lt (tgt := 15) dX7_setRange_2 (by decide) (fun z => absurd z h1) (fun _ => ?_)
    refine ax_iload_n dX7_setRange_5 rfl ?_
    refine ax_iconst (v := 5) dX7_setRange_6 (by decide) ?_
    refine ax_icmp_gt (tgt := 15) dX7_setRange_7 (by decide) (fun _ => ?_) (fun z => absurd h2 z)
    refine ax_iconst (v := 1) dX7_setRange_15 (by decide) ?_
    refine ax_goto (tgt := 20) dX7_setRange_16 (by decide) ?_
    refine ax_put dX7_setRange_20 fpX7_52 (rw_g0 hA) rfl rfl (Nat.le_of_ble_eq_true rfl) ?_
    refine ax_eqh (rw_ps0 hA) ?_
    refine ax_aload_n dX7_setRange_23 rfl ?_
    refine ax_get (v := .int 1) dX7_setRange_24 fkX7_52 (rw_g0 hA) rfl ?_
    refine ax_if_eq (tgt := 32) dX7_setRange_27 (by decide) (fun z => absurd z (by decide)) (fun _ => ?_)
    refine ax_iconst (v := 0) dX7_setRange_30 (by decide) ?_
    exact ax_iret (st := []) dX7_setRange_31 rfl rfl ⟨_, h, _, rfl, rfl, hx_rfl h, RI_s0 1 hR, rfl, fun z => Nat.noConfusion z⟩
  by_cases h3 : b < a
  · rw [show po_setRange σ a b = ((1, 0), σ) from if_pos (Or.inr (Or.inr h3))]
    refine ax_aload_n dX7_setRange_0 rfl ?_
    refine ax_iload_n dX7_setRange_1 rfl ?_
    refine ax_if_lt (tgt := 15) dX7_setRange_2 (by decide) (fun z => absurd z h1) (fun _ => ?_)
    refine ax_iload_n dX7_setRange_5 rfl ?_
    refine ax_iconst (v := 5) dX7_setRange_6 (by decide) ?_
    refine ax_icmp_gt (tgt := 15) dX7_setRange_7 (by decide) (fun z => absurd z h2) (fun _ => ?_)
    refine ax_iload_n dX7_setRange_10 rfl ?_
    refine ax_iload_n dX7_setRange_11 rfl ?_
    refine ax_icmp_le (tgt := 19) dX7_setRange_12 (by decide) (fun z => absurd z (i_lt_not h3)) (fun _ => ?_)
    refine ax_iconst (v := 1) dX7_setRange_15 (by decide) ?_
    refine ax_goto (tgt := 20) dX7_setRange_16 (by decide) ?_
    refine ax_put dX7_setRange_20 fpX7_52 (rw_g0 hA) rfl rfl (Nat.le_of_ble_eq_true rfl) ?_
    refine ax_eqh (rw_ps0 hA) ?_
    refine ax_aload_n dX7_setRange_23 rfl ?_
    refine ax_get (v := .int 1) dX7_setRange_24 fkX7_52 (rw_g0 hA) rfl ?_
    refine ax_if_eq (tgt := 32) dX7_setRange_27 (by decide) (fun z => absurd z (by decide)) (fun _ => ?_)
    refine ax_iconst (v := 0) dX7_setRange_30 (by decide) ?_
    exact ax_iret (st := []) dX7_setRange_31 rfl rfl ⟨_, h, _, rfl, rfl, hx_rfl h, RI_s0 1 hR, rfl, fun z => Nat.noConfusion z⟩
  have hab : a ≤ b := i_not_le h3
  have hb5 : b ≤ 5 := i_not_le h2
  obtain ⟨n, hn, rfl⟩ := nI_of h1
  obtain ⟨m, hm, rfl⟩ := nI_of2 (x := b) (M := 5) (n := 5) (by decide) (i_le_not (i_le_le (i_not_le h1) hab)) hb5
  have hnm : n ≤ m := (nI_leI hn (by omega)).mp hab
  have hw := hR.1
  have e0 : po_setRange σ (nI n) (nI m) = ((0, if R.1 1 = nI n ∧ R.1 2 = nI m then 0 else 1), ((n, m, σ.1.2.2), σ.2.1, none)) := by
    unfold po_setRange
    rw [if_neg (by rintro (z | z | z); exact h1 z; exact h2 z; exact h3 z), nI_clamp hn, nI_clamp (by omega), hR.2.1.1, hR.2.1.2.1]
    by_cases w1 : nI n = nI σ.1.1
    · by_cases w2 : nI m = nI σ.1.2.1
      · rw [if_pos ⟨w1, w2⟩, if_pos ⟨w1.symm, w2.symm⟩]
      · rw [if_neg (fun z => w2 z.2), if_neg (fun z => w2 z.2.symm)]
    · rw [if_neg (fun z => w1 z.1), if_neg (fun z => w1 z.1.symm)]
  rw [e0]
  have hFin : RI A ((n, m, σ.1.2.2), σ.2.1, none) (rw_setS (rw_setS (rw_setS (rw_setS (rw_setS R 0 0) 1 (nI n)) 2 (nI m)) 12 0) 10 (-1)) h := by
    refine RI_chg hR ⟨hnm, hm, hw.2.2⟩ ⟨rfl, rfl, hR.2.1.2.2⟩ rfl rfl rfl rfl rfl
  by_cases c1 : R.1 1 = nI n
  · by_cases c2 : R.1 2 = nI m
    · rw [if_pos ⟨c1, c2⟩]
      refine ax_aload_n dX7_setRange_0 rfl ?_
      refine ax_iload_n dX7_setRange_1 rfl ?_
      refine ax_if_lt (tgt := 15) dX7_setRange_2 (by decide) (fun z => absurd z h1) (fun _ => ?_)
      refine ax_iload_n dX7_setRange_5 rfl ?_
      refine ax_iconst (v := 5) dX7_setRange_6 (by decide) ?_
      refine ax_icmp_gt (tgt := 15) dX7_setRange_7 (by decide) (fun z => absurd z h2) (fun _ => ?_)
      refine ax_iload_n dX7_setRange_10 rfl ?_
      refine ax_iload_n dX7_setRange_11 rfl ?_
      refine ax_icmp_le (tgt := 19) dX7_setRange_12 (by decide) (fun _ => ?_) (fun z => absurd hab z)
      refine ax_iconst (v := 0) dX7_setRange_19 (by decide) ?_
      refine ax_put dX7_setRange_20 fpX7_52 (rw_g0 hA) rfl rfl (Nat.le_of_ble_eq_true rfl) ?_
      refine ax_eqh (rw_ps0 hA) ?_
      refine ax_aload_n dX7_setRange_23 rfl ?_
      refine ax_get (v := .int 0) dX7_setRange_24 fkX7_52 (rw_g0 hA) rfl ?_
      refine ax_if_eq (tgt := 32) dX7_setRange_27 (by decide) (fun _ => ?_) (fun z => absurd rfl z)
      refine ax_aload_n dX7_setRange_32 rfl ?_
      refine ax_get (v := .int (R.1 1)) dX7_setRange_33 fkX7_66 (rw_g0 hA) rfl ?_
      refine ax_iload_n dX7_setRange_36 rfl ?_
      refine ax_icmp_ne (tgt := 48) dX7_setRange_37 (by decide) (fun z => absurd c1 z) (fun _ => ?_)
      refine ax_aload_n dX7_setRange_40 rfl ?_
      refine ax_get (v := .int (R.1 2)) dX7_setRange_41 fkX7_7 (rw_g0 hA) rfl ?_
      refine ax_iload_n dX7_setRange_44 rfl ?_
      refine ax_icmp_eq (tgt := 52) dX7_setRange_45 (by decide) (fun _ => ?_) (fun z => absurd c2 z)
      refine ax_iconst (v := 0) dX7_setRange_52 (by decide) ?_
      refine ax_istore_n dX7_setRange_53 (by decide) ?_
      refine ax_sub (lv' := [(0, .ref (A.1 0)), (1, .int (nI n)), (2, .int (nI m)), (3, .int 0)]) (fun _ z => z) ?_
      refine ax_aload_n dX7_setRange_54 rfl ?_
      refine ax_iload_n dX7_setRange_55 rfl ?_
      refine ax_put dX7_setRange_56 fpX7_66 (rw_g0 hA) rfl rfl (Nat.le_of_ble_eq_true rfl) ?_
      refine ax_eqh (rw_ps1 hA) ?_
      refine ax_aload_n dX7_setRange_59 rfl ?_
      refine ax_iload_n dX7_setRange_60 rfl ?_
      refine ax_put dX7_setRange_61 fpX7_7 (rw_g0 hA) rfl rfl (Nat.le_of_ble_eq_true rfl) ?_
      refine ax_eqh (rw_ps2 hA) ?_
      refine ax_aload_n dX7_setRange_64 rfl ?_
      refine ax_callV (b := (A.1 0)) (av := []) (rest := []) (mc' := 0) (ms' := 0) dX7_setRange_65 rfl lkX7_69 (rw_g0 hA) rfl (Nat.le_of_ble_eq_true rfl) (Nat.le_of_ble_eq_true rfl) (by omega) (by omega) (r_change hA _ (rw_setS (rw_setS (rw_setS R 0 0) 1 (nI n)) 2 (nI m)) h) (fun E9 h9 q9 => by cases q9.1) (fun v9 h9 q9 => ?_)
      obtain ⟨e9, rfl⟩ := q9
      cases e9
      show AW G mX7_setRange (d + 48) 0 0 _ 68 [(0, .ref (A.1 0)), (1, .int (nI n)), (2, .int (nI m)), (3, .int 0)] [] (rw_O A (rw_setS (rw_setS (rw_setS (rw_setS (rw_setS R 0 0) 1 (nI n)) 2 (nI m)) 12 0) 10 (-1)) h) 0 0
      refine ax_iload_n dX7_setRange_68 rfl ?_
      exact ax_iret (st := []) dX7_setRange_69 rfl rfl ⟨_, h, _, rfl, rfl, hx_rfl h, hFin, rfl, fun _ => rfl⟩
    · rw [if_neg (fun z => c2 z.2)]
      refine ax_aload_n dX7_setRange_0 rfl ?_
      refine ax_iload_n dX7_setRange_1 rfl ?_
      refine ax_if_lt (tgt := 15) dX7_setRange_2 (by decide) (fun z => absurd z h1) (fun _ => ?_)
      refine ax_iload_n dX7_setRange_5 rfl ?_
      refine ax_iconst (v := 5) dX7_setRange_6 (by decide) ?_
      refine ax_icmp_gt (tgt := 15) dX7_setRange_7 (by decide) (fun z => absurd z h2) (fun _ => ?_)
      refine ax_iload_n dX7_setRange_10 rfl ?_
      refine ax_iload_n dX7_setRange_11 rfl ?_
      refine ax_icmp_le (tgt := 19) dX7_setRange_12 (by decide) (fun _ => ?_) (fun z => absurd hab z)
      refine ax_iconst (v := 0) dX7_setRange_19 (by decide) ?_
      refine ax_put dX7_setRange_20 fpX7_52 (rw_g0 hA) rfl rfl (Nat.le_of_ble_eq_true rfl) ?_
      refine ax_eqh (rw_ps0 hA) ?_
      refine ax_aload_n dX7_setRange_23 rfl ?_
      refine ax_get (v := .int 0) dX7_setRange_24 fkX7_52 (rw_g0 hA) rfl ?_
      refine ax_if_eq (tgt := 32) dX7_setRange_27 (by decide) (fun _ => ?_) (fun z => absurd rfl z)
      refine ax_aload_n dX7_setRange_32 rfl ?_
      refine ax_get (v := .int (R.1 1)) dX7_setRange_33 fkX7_66 (rw_g0 hA) rfl ?_
      refine ax_iload_n dX7_setRange_36 rfl ?_
      refine ax_icmp_ne (tgt := 48) dX7_setRange_37 (by decide) (fun z => absurd c1 z) (fun _ => ?_)
      refine ax_aload_n dX7_setRange_40 rfl ?_
      refine ax_get (v := .int (R.1 2)) dX7_setRange_41 fkX7_7 (rw_g0 hA) rfl ?_
      refine ax_iload_n dX7_setRange_44 rfl ?_
      refine ax_icmp_eq (tgt := 52) dX7_setRange_45 (by decide) (fun z => absurd z c2) (fun _ => ?_)
      refine ax_iconst (v := 1) dX7_setRange_48 (by decide) ?_
      refine ax_goto (tgt := 53) dX7_setRange_49 (by decide) ?_
      refine ax_istore_n dX7_setRange_53 (by decide) ?_
      refine ax_sub (lv' := [(0, .ref (A.1 0)), (1, .int (nI n)), (2, .int (nI m)), (3, .int 1)]) (fun _ z => z) ?_
      refine ax_aload_n dX7_setRange_54 rfl ?_
      refine ax_iload_n dX7_setRange_55 rfl ?_
      refine ax_put dX7_setRange_56 fpX7_66 (rw_g0 hA) rfl rfl (Nat.le_of_ble_eq_true rfl) ?_
      refine ax_eqh (rw_ps1 hA) ?_
      refine ax_aload_n dX7_setRange_59 rfl ?_
      refine ax_iload_n dX7_setRange_60 rfl ?_
      refine ax_put dX7_setRange_61 fpX7_7 (rw_g0 hA) rfl rfl (Nat.le_of_ble_eq_true rfl) ?_
      refine ax_eqh (rw_ps2 hA) ?_
      refine ax_aload_n dX7_setRange_64 rfl ?_
      refine ax_callV (b := (A.1 0)) (av := []) (rest := []) (mc' := 0) (ms' := 0) dX7_setRange_65 rfl lkX7_69 (rw_g0 hA) rfl (Nat.le_of_ble_eq_true rfl) (Nat.le_of_ble_eq_true rfl) (by omega) (by omega) (r_change hA _ (rw_setS (rw_setS (rw_setS R 0 0) 1 (nI n)) 2 (nI m)) h) (fun E9 h9 q9 => by cases q9.1) (fun v9 h9 q9 => ?_)
      obtain ⟨e9, rfl⟩ := q9
      cases e9
      show AW G mX7_setRange (d + 48) 0 0 _ 68 [(0, .ref (A.1 0)), (1, .int (nI n)), (2, .int (nI m)), (3, .int 1)] [] (rw_O A (rw_setS (rw_setS (rw_setS (rw_setS (rw_setS R 0 0) 1 (nI n)) 2 (nI m)) 12 0) 10 (-1)) h) 0 0
      refine ax_iload_n dX7_setRange_68 rfl ?_
      exact ax_iret (st := []) dX7_setRange_69 rfl rfl ⟨_, h, _, rfl, rfl, hx_rfl h, hFin, rfl, fun _ => rfl⟩
  · rw [if_neg (fun z => c1 z.1)]
    refine ax_aload_n dX7_setRange_0 rfl ?_
    refine ax_iload_n dX7_setRange_1 rfl ?_
    refine ax_if_lt (tgt := 15) dX7_setRange_2 (by decide) (fun z => absurd z h1) (fun _ => ?_)
    refine ax_iload_n dX7_setRange_5 rfl ?_
    refine ax_iconst (v := 5) dX7_setRange_6 (by decide) ?_
    refine ax_icmp_gt (tgt := 15) dX7_setRange_7 (by decide) (fun z => absurd z h2) (fun _ => ?_)
    refine ax_iload_n dX7_setRange_10 rfl ?_
    refine ax_iload_n dX7_setRange_11 rfl ?_
    refine ax_icmp_le (tgt := 19) dX7_setRange_12 (by decide) (fun _ => ?_) (fun z => absurd hab z)
    refine ax_iconst (v := 0) dX7_setRange_19 (by decide) ?_
    refine ax_put dX7_setRange_20 fpX7_52 (rw_g0 hA) rfl rfl (Nat.le_of_ble_eq_true rfl) ?_
    refine ax_eqh (rw_ps0 hA) ?_
    refine ax_aload_n dX7_setRange_23 rfl ?_
    refine ax_get (v := .int 0) dX7_setRange_24 fkX7_52 (rw_g0 hA) rfl ?_
    refine ax_if_eq (tgt := 32) dX7_setRange_27 (by decide) (fun _ => ?_) (fun z => absurd rfl z)
    refine ax_aload_n dX7_setRange_32 rfl ?_
    refine ax_get (v := .int (R.1 1)) dX7_setRange_33 fkX7_66 (rw_g0 hA) rfl ?_
    refine ax_iload_n dX7_setRange_36 rfl ?_
    refine ax_icmp_ne (tgt := 48) dX7_setRange_37 (by decide) (fun _ => ?_) (fun z => absurd z c1)
    refine ax_iconst (v := 1) dX7_setRange_48 (by decide) ?_
    refine ax_goto (tgt := 53) dX7_setRange_49 (by decide) ?_
    refine ax_istore_n dX7_setRange_53 (by decide) ?_
    refine ax_sub (lv' := [(0, .ref (A.1 0)), (1, .int (nI n)), (2, .int (nI m)), (3, .int 1)]) (fun _ z => z) ?_
    refine ax_aload_n dX7_setRange_54 rfl ?_
    refine ax_iload_n dX7_setRange_55 rfl ?_
    refine ax_put dX7_setRange_56 fpX7_66 (rw_g0 hA) rfl rfl (Nat.le_of_ble_eq_true rfl) ?_
    refine ax_eqh (rw_ps1 hA) ?_
    refine ax_aload_n dX7_setRange_59 rfl ?_
    refine ax_iload_n dX7_setRange_60 rfl ?_
    refine ax_put dX7_setRange_61 fpX7_7 (rw_g0 hA) rfl rfl (Nat.le_of_ble_eq_true rfl) ?_
    refine ax_eqh (rw_ps2 hA) ?_
    refine ax_aload_n dX7_setRange_64 rfl ?_
    refine ax_callV (b := (A.1 0)) (av := []) (rest := []) (mc' := 0) (ms' := 0) dX7_setRange_65 rfl lkX7_69 (rw_g0 hA) rfl (Nat.le_of_ble_eq_true rfl) (Nat.le_of_ble_eq_true rfl) (by omega) (by omega) (r_change hA _ (rw_setS (rw_setS (rw_setS R 0 0) 1 (nI n)) 2 (nI m)) h) (fun E9 h9 q9 => by cases q9.1) (fun v9 h9 q9 => ?_)
    obtain ⟨e9, rfl⟩ := q9
    cases e9
    show AW G mX7_setRange (d + 48) 0 0 _ 68 [(0, .ref (A.1 0)), (1, .int (nI n)), (2, .int (nI m)), (3, .int 1)] [] (rw_O A (rw_setS (rw_setS (rw_setS (rw_setS (rw_setS R 0 0) 1 (nI n)) 2 (nI m)) 12 0) 10 (-1)) h) 0 0
    refine ax_iload_n dX7_setRange_68 rfl ?_
    exact ax_iret (st := []) dX7_setRange_69 rfl rfl ⟨_, h, _, rfl, rfl, hx_rfl h, hFin, rfl, fun _ => rfl⟩
set_option maxRecDepth 100000 in
set_option maxHeartbeats 4000000 in
theorem rb_addType (hA : rw_nd A) (d : Nat) (R : rw_S) (h : ax_H) {σ : sp_St} (hR : RI A σ R h)  : AW G mX7_addType (d + 48) 0 0 (rb_Q A h (po_addType σ)) 0 [(0, .ref (A.1 0))] [] (rw_O A R h) 0 0 := by
  have hw := hR.1
  have h3 : R.1 3 = nI σ.1.2.2.1 := hR.2.1.2.2.1
  have h4 := hw.2.2.1
  by_cases h1 : σ.1.2.2.1 = 4
  · rw [show po_addType σ = ((1, 0), σ) from if_pos h1]
    refine ax_aload_n dX7_addType_0 rfl ?_
    refine ax_iconst (v := 0) dX7_addType_1 (by decide) ?_
    refine ax_put dX7_addType_2 fpX7_52 (rw_g0 hA) rfl rfl (Nat.le_of_ble_eq_true rfl) ?_
    refine ax_eqh (rw_ps0 hA) ?_
    refine ax_aload_n dX7_addType_5 rfl ?_
    refine ax_get (v := .int (nI σ.1.2.2.1)) dX7_addType_6 fkX7_55 (rw_g0 hA) (congrArg (fun z => some (Value.int z)) (h3)) ?_
    refine ax_iconst (v := 4) dX7_addType_9 (by decide) ?_
    refine ax_icmp_ne (tgt := 19) dX7_addType_10 (by decide) (fun z => absurd (by rw [h1]; decide) z) (fun _ => ?_)
    refine ax_aload_n dX7_addType_13 rfl ?_
    refine ax_iconst (v := 1) dX7_addType_14 (by decide) ?_
    refine ax_callV (b := (A.1 0)) (av := [.int 1]) (rest := []) (mc' := 0) (ms' := 0) dX7_addType_15 rfl lkX7_72 (rw_g0 hA) rfl (Nat.le_of_ble_eq_true rfl) (Nat.le_of_ble_eq_true rfl) (by omega) (by omega) (r_fail hA _ (rw_setS R 0 0) h 1) (fun E9 h9 q9 => by cases q9.1) (fun v9 h9 q9 => ?_)
    obtain ⟨e9, rfl⟩ := q9
    cases e9
    show AW G mX7_addType (d + 48) 0 0 _ 18 [(0, .ref (A.1 0))] [.int 0] (rw_O A (rw_setS (rw_setS R 0 0) 0 1) h) 0 0
    exact ax_iret (st := []) dX7_addType_18 rfl rfl ⟨_, h, _, rfl, rfl, hx_rfl h, RI_s0 1 (RI_s0 0 hR), rfl, fun z => Nat.noConfusion z⟩
  · rw [show po_addType σ = ((0, nI σ.1.2.2.1), ((σ.1.1, σ.1.2.1, σ.1.2.2.1 + 1, σ.1.2.2.2), σ.2.1, none)) from if_neg h1]
    have hFin : RI A ((σ.1.1, σ.1.2.1, σ.1.2.2.1 + 1, σ.1.2.2.2), σ.2.1, none) (rw_setS (rw_setS (rw_setS (rw_setS R 0 0) 3 (nI (σ.1.2.2.1 + 1))) 12 0) 10 (-1)) h := by
      refine RI_chg hR ⟨hw.1, hw.2.1, by show σ.1.2.2.1 + 1 ≤ 4; omega, hw.2.2.2.1, fun q hq => ?_⟩ ⟨hR.2.1.1, hR.2.1.2.1, rfl, hR.2.1.2.2.2⟩ rfl rfl rfl rfl rfl
      obtain ⟨w1, w2, w3, w4, w5, w6⟩ := hw.2.2.2.2 q hq
      refine ⟨by show q.1 < σ.1.2.2.1 + 1; omega, fun k hk => ?_, w3, w4, ?_, w6⟩
      · rcases w2 k hk with z | z
        · exact Or.inl (by show sp_par q k < σ.1.2.2.1 + 1; omega)
        · exact Or.inr z
      · intro z
        have z1 : q.2.1 < σ.1.2.2.1 + 1 := z.1
        have z2 : q.2.2.1 < σ.1.2.2.1 + 1 := z.2.1
        have z3 : q.2.2.2.1 < σ.1.2.2.1 + 1 := z.2.2
        have k0 : q.2.1 < σ.1.2.2.1 ∨ q.2.1 = 9 ∨ q.2.1 = 10 := w2 0 (by decide)
        have k1 : q.2.2.1 < σ.1.2.2.1 ∨ q.2.2.1 = 9 ∨ q.2.2.1 = 10 := w2 1 (by decide)
        have k2 : q.2.2.2.1 < σ.1.2.2.1 ∨ q.2.2.2.1 = 9 ∨ q.2.2.2.1 = 10 := w2 2 (by decide)
        exact w5 ⟨by omega, by omega, by omega⟩
    refine ax_aload_n dX7_addType_0 rfl ?_
    refine ax_iconst (v := 0) dX7_addType_1 (by decide) ?_
    refine ax_put dX7_addType_2 fpX7_52 (rw_g0 hA) rfl rfl (Nat.le_of_ble_eq_true rfl) ?_
    refine ax_eqh (rw_ps0 hA) ?_
    refine ax_aload_n dX7_addType_5 rfl ?_
    refine ax_get (v := .int (nI σ.1.2.2.1)) dX7_addType_6 fkX7_55 (rw_g0 hA) (congrArg (fun z => some (Value.int z)) (h3)) ?_
    refine ax_iconst (v := 4) dX7_addType_9 (by decide) ?_
    refine ax_icmp_ne (tgt := 19) dX7_addType_10 (by decide) (fun _ => ?_) (fun z => absurd z (il_ne σ.1.2.2.1 4 h1))
    refine ax_aload_n dX7_addType_19 rfl ?_
    refine ax_dup dX7_addType_20 rfl ?_
    refine ax_get (v := .int (nI σ.1.2.2.1)) dX7_addType_21 fkX7_55 (rw_g0 hA) (congrArg (fun z => some (Value.int z)) (h3)) ?_
    refine ax_iconst (v := 1) dX7_addType_24 (by decide) ?_
    refine ax_iadd dX7_addType_25 ?_
    refine ax_top (y := (nI (σ.1.2.2.1 + 1))) (nI_1 _) ?_
    refine ax_put dX7_addType_26 fpX7_55 (rw_g0 hA) rfl rfl (Nat.le_of_ble_eq_true rfl) ?_
    refine ax_eqh (rw_ps3 hA) ?_
    refine ax_aload_n dX7_addType_29 rfl ?_
    refine ax_callV (b := (A.1 0)) (av := []) (rest := []) (mc' := 0) (ms' := 0) dX7_addType_30 rfl lkX7_69 (rw_g0 hA) rfl (Nat.le_of_ble_eq_true rfl) (Nat.le_of_ble_eq_true rfl) (by omega) (by omega) (r_change hA _ (rw_setS (rw_setS R 0 0) 3 (nI (σ.1.2.2.1 + 1))) h) (fun E9 h9 q9 => by cases q9.1) (fun v9 h9 q9 => ?_)
    obtain ⟨e9, rfl⟩ := q9
    cases e9
    show AW G mX7_addType (d + 48) 0 0 _ 33 [(0, .ref (A.1 0))] [] (rw_O A (rw_setS (rw_setS (rw_setS (rw_setS R 0 0) 3 (nI (σ.1.2.2.1 + 1))) 12 0) 10 (-1)) h) 0 0
    refine ax_aload_n dX7_addType_33 rfl ?_
    refine ax_get (v := .int (nI (σ.1.2.2.1 + 1))) dX7_addType_34 fkX7_55 (rw_g0 hA) (congrArg (fun z => some (Value.int z)) (rfl)) ?_
    refine ax_iconst (v := 1) dX7_addType_37 (by decide) ?_
    refine ax_isub dX7_addType_38 ?_
    refine ax_top (y := (nI σ.1.2.2.1)) (nI_pred _) ?_
    exact ax_iret (st := []) dX7_addType_39 rfl rfl ⟨_, h, _, rfl, rfl, hx_rfl h, hFin, rfl, fun _ => rfl⟩
set_option maxRecDepth 100000 in
set_option maxHeartbeats 4000000 in
theorem rb_tell (hA : rw_nd A) (d : Nat) (R : rw_S) (h : ax_H) {σ : sp_St} (hR : RI A σ R h) (c : Int32) : AW G mX7_tell (d + 48) 0 0 (rb_Q A h (po_tell σ c)) 0 [(0, .ref (A.1 0)), (1, .int c)] [] (rw_O A R h) 0 0 := by
  have h8 : R.1 8 = nI σ.2.1.length := hR.2.2.1.1
  have hl40 := hR.2.2.1.2.1
  have q5 : ((0 : Int32) ≤ c ∧ c ≤ 5) ↔ (¬ c < 0 ∧ c ≤ 5) := ⟨fun z => ⟨i_le_not z.1, z.2⟩, fun z => ⟨i_not_le z.1, z.2⟩⟩
  have q6 : ((100 : Int32) ≤ c ∧ c ≤ 105) ↔ (100 ≤ c ∧ c < 106) := by
    have e1 : (105 : Int32).toInt = 105 := by decide
    have e2 : (106 : Int32).toInt = 106 := by decide
    constructor
    · intro z
      refine ⟨z.1, ?_⟩
      have := z.2
      rw [Int32.le_iff_toInt_le] at this
      rw [Int32.lt_iff_toInt_lt]; omega
    · intro z
      refine ⟨z.1, ?_⟩
      have := z.2
      rw [Int32.lt_iff_toInt_lt] at this
      rw [Int32.le_iff_toInt_le]; omega
  by_cases hr : (¬ c < 0 ∧ c ≤ 5) ∨ (100 ≤ c ∧ c < 106)
  · by_cases hl : σ.2.1.length = 40
    · rw [show po_tell σ c = ((2, 0), σ) from (if_neg (fun z => z hr)).trans (if_pos hl)]
      have b37 : nI σ.2.1.length = (40 : Int32) := by rw [hl]; decide
      by_cases w5 : (0 : Int32) ≤ c ∧ c ≤ 5
      · refine ax_aload_n dX7_tell_0 rfl ?_
        refine ax_iconst (v := 0) dX7_tell_1 (by decide) ?_
        refine ax_put dX7_tell_2 fpX7_52 (rw_g0 hA) rfl rfl (Nat.le_of_ble_eq_true rfl) ?_
        refine ax_eqh (rw_ps0 hA) ?_
        refine ax_iload_n dX7_tell_5 rfl ?_
        refine ax_iconst (v := 0) dX7_tell_6 (by decide) ?_
        refine ax_iconst (v := 5) dX7_tell_7 (by decide) ?_
        refine ax_callS (av := [.int c, .int 0, .int 5]) (rest := []) (mc' := 0) (ms' := 0) dX7_tell_8 rfl lkX7_58 rfl (Nat.le_of_ble_eq_true rfl) (Nat.le_of_ble_eq_true rfl) (by omega) (by omega) (r_isIn _ _ c 0 5) (fun E9 h9 q9 => by cases q9.1) (fun v9 h9 q9 => ?_)
        obtain ⟨e9, rfl⟩ := q9
        cases e9
        rw [if_pos w5]
        show AW G mX7_tell (d + 48) 0 0 _ 11 [(0, .ref (A.1 0)), (1, .int c)] [.int 1] (rw_O A (rw_setS R 0 0) h) 0 0
        refine ax_if_ne (tgt := 31) dX7_tell_11 (by decide) (fun _ => ?_) (fun z => absurd z (by decide))
        refine ax_aload_n dX7_tell_31 rfl ?_
        refine ax_get (v := .int (nI σ.2.1.length)) dX7_tell_32 fkX7_160 (rw_g0 hA) (congrArg (fun z => some (Value.int z)) (h8)) ?_
        refine ax_bipush (v := 40) dX7_tell_35 (by decide) ?_
        refine ax_icmp_ne (tgt := 46) dX7_tell_37 (by decide) (fun z => absurd b37 z) (fun _ => ?_)
        refine ax_aload_n dX7_tell_40 rfl ?_
        refine ax_iconst (v := 2) dX7_tell_41 (by decide) ?_
        refine ax_callV (b := (A.1 0)) (av := [.int 2]) (rest := []) (mc' := 0) (ms' := 0) dX7_tell_42 rfl lkX7_72 (rw_g0 hA) rfl (Nat.le_of_ble_eq_true rfl) (Nat.le_of_ble_eq_true rfl) (by omega) (by omega) (r_fail hA _ (rw_setS R 0 0) h 2) (fun E9 h9 q9 => by cases q9.1) (fun v9 h9 q9 => ?_)
        obtain ⟨e9, rfl⟩ := q9
        cases e9
        show AW G mX7_tell (d + 48) 0 0 _ 45 [(0, .ref (A.1 0)), (1, .int c)] [.int 0] (rw_O A (rw_setS (rw_setS R 0 0) 0 2) h) 0 0
        exact ax_iret (st := []) dX7_tell_45 rfl rfl ⟨_, h, _, rfl, rfl, hx_rfl h, RI_s0 2 (RI_s0 0 hR), rfl, fun z => Nat.noConfusion z⟩
      · have w6 : (100 : Int32) ≤ c ∧ c ≤ 105 := q6.mpr (hr.resolve_left (fun z => w5 (q5.mpr z)))
        refine ax_aload_n dX7_tell_0 rfl ?_
        refine ax_iconst (v := 0) dX7_tell_1 (by decide) ?_
        refine ax_put dX7_tell_2 fpX7_52 (rw_g0 hA) rfl rfl (Nat.le_of_ble_eq_true rfl) ?_
        refine ax_eqh (rw_ps0 hA) ?_
        refine ax_iload_n dX7_tell_5 rfl ?_
        refine ax_iconst (v := 0) dX7_tell_6 (by decide) ?_
        refine ax_iconst (v := 5) dX7_tell_7 (by decide) ?_
        refine ax_callS (av := [.int c, .int 0, .int 5]) (rest := []) (mc' := 0) (ms' := 0) dX7_tell_8 rfl lkX7_58 rfl (Nat.le_of_ble_eq_true rfl) (Nat.le_of_ble_eq_true rfl) (by omega) (by omega) (r_isIn _ _ c 0 5) (fun E9 h9 q9 => by cases q9.1) (fun v9 h9 q9 => ?_)
        obtain ⟨e9, rfl⟩ := q9
        cases e9
        rw [if_neg w5]
        show AW G mX7_tell (d + 48) 0 0 _ 11 [(0, .ref (A.1 0)), (1, .int c)] [.int 0] (rw_O A (rw_setS R 0 0) h) 0 0
        refine ax_if_ne (tgt := 31) dX7_tell_11 (by decide) (fun z => absurd rfl z) (fun _ => ?_)
        refine ax_iload_n dX7_tell_14 rfl ?_
        refine ax_bipush (v := 100) dX7_tell_15 (by decide) ?_
        refine ax_bipush (v := 105) dX7_tell_17 (by decide) ?_
        refine ax_callS (av := [.int c, .int 100, .int 105]) (rest := []) (mc' := 0) (ms' := 0) dX7_tell_19 rfl lkX7_58 rfl (Nat.le_of_ble_eq_true rfl) (Nat.le_of_ble_eq_true rfl) (by omega) (by omega) (r_isIn _ _ c 100 105) (fun E9 h9 q9 => by cases q9.1) (fun v9 h9 q9 => ?_)
        obtain ⟨e9, rfl⟩ := q9
        cases e9
        rw [if_pos w6]
        show AW G mX7_tell (d + 48) 0 0 _ 22 [(0, .ref (A.1 0)), (1, .int c)] [.int 1] (rw_O A (rw_setS R 0 0) h) 0 0
        refine ax_if_ne (tgt := 31) dX7_tell_22 (by decide) (fun _ => ?_) (fun z => absurd z (by decide))
        refine ax_aload_n dX7_tell_31 rfl ?_
        refine ax_get (v := .int (nI σ.2.1.length)) dX7_tell_32 fkX7_160 (rw_g0 hA) (congrArg (fun z => some (Value.int z)) (h8)) ?_
        refine ax_bipush (v := 40) dX7_tell_35 (by decide) ?_
        refine ax_icmp_ne (tgt := 46) dX7_tell_37 (by decide) (fun z => absurd b37 z) (fun _ => ?_)
        refine ax_aload_n dX7_tell_40 rfl ?_
        refine ax_iconst (v := 2) dX7_tell_41 (by decide) ?_
        refine ax_callV (b := (A.1 0)) (av := [.int 2]) (rest := []) (mc' := 0) (ms' := 0) dX7_tell_42 rfl lkX7_72 (rw_g0 hA) rfl (Nat.le_of_ble_eq_true rfl) (Nat.le_of_ble_eq_true rfl) (by omega) (by omega) (r_fail hA _ (rw_setS R 0 0) h 2) (fun E9 h9 q9 => by cases q9.1) (fun v9 h9 q9 => ?_)
        obtain ⟨e9, rfl⟩ := q9
        cases e9
        show AW G mX7_tell (d + 48) 0 0 _ 45 [(0, .ref (A.1 0)), (1, .int c)] [.int 0] (rw_O A (rw_setS (rw_setS R 0 0) 0 2) h) 0 0
        exact ax_iret (st := []) dX7_tell_45 rfl rfl ⟨_, h, _, rfl, rfl, hx_rfl h, RI_s0 2 (RI_s0 0 hR), rfl, fun z => Nat.noConfusion z⟩
    · have hl : σ.2.1.length < 40 := by omega
      rw [show po_tell σ c = ((0, nI (σ.2.1.length + 1)), (σ.1, σ.2.1 ++ [c.toNatClampNeg], σ.2.2)) from (if_neg (fun z => z hr)).trans (if_neg (by omega))]
      have b37 : ¬ nI σ.2.1.length = (40 : Int32) := il_ne σ.2.1.length 40 (by omega)
      have hcn : ∃ n, c = nI n ∧ (n ≤ 5 ∨ (100 ≤ n ∧ n ≤ 105)) := by
        have t0 : (0 : Int32).toInt = 0 := by decide
        have t5 : (5 : Int32).toInt = 5 := by decide
        have t100 : (100 : Int32).toInt = 100 := by decide
        have t106 : (106 : Int32).toInt = 106 := by decide
        rcases hr with ⟨r1, r2⟩ | ⟨r1, r2⟩
        · obtain ⟨j, hj, rfl⟩ := nI_of r1
          rw [Int32.le_iff_toInt_le, nI_toInt hj] at r2
          exact ⟨j, rfl, by omega⟩
        · rw [Int32.le_iff_toInt_le] at r1
          obtain ⟨j, hj, rfl⟩ := nI_of (x := c) (by rw [Int32.lt_iff_toInt_lt]; omega)
          rw [nI_toInt hj] at r1
          rw [Int32.lt_iff_toInt_lt, nI_toInt hj] at r2
          exact ⟨j, rfl, by omega⟩
      obtain ⟨n, rfl, hn⟩ := hcn
      rw [nI_clamp (by omega : n < 2 ^ 31)]
      have hFin : RI A (σ.1, σ.2.1 ++ [n], σ.2.2) (rw_setS (rw_setA (rw_setS R 0 0) 4 (upd (R.2.1 4) (nI σ.2.1.length).toNatClampNeg (nI n))) 8 (nI (σ.2.1.length + 1))) h := by
        obtain ⟨r1, r2, r3, r4, r5⟩ := hR
        refine ⟨r1, ⟨r2.1, r2.2.1, r2.2.2.1, r2.2.2.2.1, r2.2.2.2.2⟩, ⟨by rw [List.length_append]; rfl, by rw [List.length_append]; show σ.2.1.length + 1 ≤ 40; omega, fun i a hi => ?_, fun a ha => ?_⟩, r4.imp id (fun z => ⟨z.1, ⟨z.2.1.1, z.2.1.2.1, z.2.1.2.2⟩, z.2.2⟩), r5⟩
        · show upd (R.2.1 4) (nI σ.2.1.length).toNatClampNeg (nI n) i = nI a
          rw [nI_clamp (by omega)]
          by_cases hil : i < σ.2.1.length
          · rw [List.getElem?_append_left hil] at hi
            rw [pk_un (by omega)]; exact r3.2.2.1 i a hi
          · rw [List.getElem?_append_right (by omega)] at hi
            have hi0 : i - σ.2.1.length = 0 := by
              have := (List.getElem?_eq_some_iff.mp hi).1
              simp at this; omega
            rw [hi0] at hi
            simp at hi
            rw [show i = σ.2.1.length by omega, pk_us, hi]
        · rcases List.mem_append.mp ha with z | z
          · exact r3.2.2.2 a z
          · rw [List.mem_singleton.mp z]; exact hn
      by_cases w5 : (0 : Int32) ≤ nI n ∧ nI n ≤ 5
      · refine ax_aload_n dX7_tell_0 rfl ?_
        refine ax_iconst (v := 0) dX7_tell_1 (by decide) ?_
        refine ax_put dX7_tell_2 fpX7_52 (rw_g0 hA) rfl rfl (Nat.le_of_ble_eq_true rfl) ?_
        refine ax_eqh (rw_ps0 hA) ?_
        refine ax_iload_n dX7_tell_5 rfl ?_
        refine ax_iconst (v := 0) dX7_tell_6 (by decide) ?_
        refine ax_iconst (v := 5) dX7_tell_7 (by decide) ?_
        refine ax_callS (av := [.int (nI n), .int 0, .int 5]) (rest := []) (mc' := 0) (ms' := 0) dX7_tell_8 rfl lkX7_58 rfl (Nat.le_of_ble_eq_true rfl) (Nat.le_of_ble_eq_true rfl) (by omega) (by omega) (r_isIn _ _ (nI n) 0 5) (fun E9 h9 q9 => by cases q9.1) (fun v9 h9 q9 => ?_)
        obtain ⟨e9, rfl⟩ := q9
        cases e9
        rw [if_pos w5]
        show AW G mX7_tell (d + 48) 0 0 _ 11 [(0, .ref (A.1 0)), (1, .int (nI n))] [.int 1] (rw_O A (rw_setS R 0 0) h) 0 0
        refine ax_if_ne (tgt := 31) dX7_tell_11 (by decide) (fun _ => ?_) (fun z => absurd z (by decide))
        refine ax_aload_n dX7_tell_31 rfl ?_
        refine ax_get (v := .int (nI σ.2.1.length)) dX7_tell_32 fkX7_160 (rw_g0 hA) (congrArg (fun z => some (Value.int z)) (h8)) ?_
        refine ax_bipush (v := 40) dX7_tell_35 (by decide) ?_
        refine ax_icmp_ne (tgt := 46) dX7_tell_37 (by decide) (fun _ => ?_) (fun z => absurd z b37)
        refine ax_aload_n dX7_tell_46 rfl ?_
        refine ax_get (v := .ref (A.1 4)) dX7_tell_47 fkX7_23 (rw_g0 hA) rfl ?_
        refine ax_aload_n dX7_tell_50 rfl ?_
        refine ax_get (v := .int (nI σ.2.1.length)) dX7_tell_51 fkX7_160 (rw_g0 hA) (congrArg (fun z => some (Value.int z)) (h8)) ?_
        refine ax_iload_n dX7_tell_54 rfl ?_
        refine ax_iast dX7_tell_55 (rw_g4 hA) (nI_in hl (by decide)) ?_
        refine ax_eqh (rw_pa4 hA) ?_
        refine ax_aload_n dX7_tell_56 rfl ?_
        refine ax_dup dX7_tell_57 rfl ?_
        refine ax_get (v := .int (nI σ.2.1.length)) dX7_tell_58 fkX7_160 (rw_g0 hA) (congrArg (fun z => some (Value.int z)) (h8)) ?_
        refine ax_iconst (v := 1) dX7_tell_61 (by decide) ?_
        refine ax_iadd dX7_tell_62 ?_
        refine ax_top (y := (nI (σ.2.1.length + 1))) (nI_1 _) ?_
        refine ax_put dX7_tell_63 fpX7_160 (rw_g0 hA) rfl rfl (Nat.le_of_ble_eq_true rfl) ?_
        refine ax_eqh (rw_ps8 hA) ?_
        refine ax_aload_n dX7_tell_66 rfl ?_
        refine ax_get (v := .int (nI (σ.2.1.length + 1))) dX7_tell_67 fkX7_160 (rw_g0 hA) (congrArg (fun z => some (Value.int z)) (rfl)) ?_
        exact ax_iret (st := []) dX7_tell_70 rfl rfl ⟨_, h, _, rfl, rfl, hx_rfl h, hFin, rfl, fun _ => rfl⟩
      · have w6 : (100 : Int32) ≤ nI n ∧ nI n ≤ 105 := q6.mpr (hr.resolve_left (fun z => w5 (q5.mpr z)))
        refine ax_aload_n dX7_tell_0 rfl ?_
        refine ax_iconst (v := 0) dX7_tell_1 (by decide) ?_
        refine ax_put dX7_tell_2 fpX7_52 (rw_g0 hA) rfl rfl (Nat.le_of_ble_eq_true rfl) ?_
        refine ax_eqh (rw_ps0 hA) ?_
        refine ax_iload_n dX7_tell_5 rfl ?_
        refine ax_iconst (v := 0) dX7_tell_6 (by decide) ?_
        refine ax_iconst (v := 5) dX7_tell_7 (by decide) ?_
        refine ax_callS (av := [.int (nI n), .int 0, .int 5]) (rest := []) (mc' := 0) (ms' := 0) dX7_tell_8 rfl lkX7_58 rfl (Nat.le_of_ble_eq_true rfl) (Nat.le_of_ble_eq_true rfl) (by omega) (by omega) (r_isIn _ _ (nI n) 0 5) (fun E9 h9 q9 => by cases q9.1) (fun v9 h9 q9 => ?_)
        obtain ⟨e9, rfl⟩ := q9
        cases e9
        rw [if_neg w5]
        show AW G mX7_tell (d + 48) 0 0 _ 11 [(0, .ref (A.1 0)), (1, .int (nI n))] [.int 0] (rw_O A (rw_setS R 0 0) h) 0 0
        refine ax_if_ne (tgt := 31) dX7_tell_11 (by decide) (fun z => absurd rfl z) (fun _ => ?_)
        refine ax_iload_n dX7_tell_14 rfl ?_
        refine ax_bipush (v := 100) dX7_tell_15 (by decide) ?_
        refine ax_bipush (v := 105) dX7_tell_17 (by decide) ?_
        refine ax_callS (av := [.int (nI n), .int 100, .int 105]) (rest := []) (mc' := 0) (ms' := 0) dX7_tell_19 rfl lkX7_58 rfl (Nat.le_of_ble_eq_true rfl) (Nat.le_of_ble_eq_true rfl) (by omega) (by omega) (r_isIn _ _ (nI n) 100 105) (fun E9 h9 q9 => by cases q9.1) (fun v9 h9 q9 => ?_)
        obtain ⟨e9, rfl⟩ := q9
        cases e9
        rw [if_pos w6]
        show AW G mX7_tell (d + 48) 0 0 _ 22 [(0, .ref (A.1 0)), (1, .int (nI n))] [.int 1] (rw_O A (rw_setS R 0 0) h) 0 0
        refine ax_if_ne (tgt := 31) dX7_tell_22 (by decide) (fun _ => ?_) (fun z => absurd z (by decide))
        refine ax_aload_n dX7_tell_31 rfl ?_
        refine ax_get (v := .int (nI σ.2.1.length)) dX7_tell_32 fkX7_160 (rw_g0 hA) (congrArg (fun z => some (Value.int z)) (h8)) ?_
        refine ax_bipush (v := 40) dX7_tell_35 (by decide) ?_
        refine ax_icmp_ne (tgt := 46) dX7_tell_37 (by decide) (fun _ => ?_) (fun z => absurd z b37)
        refine ax_aload_n dX7_tell_46 rfl ?_
        refine ax_get (v := .ref (A.1 4)) dX7_tell_47 fkX7_23 (rw_g0 hA) rfl ?_
        refine ax_aload_n dX7_tell_50 rfl ?_
        refine ax_get (v := .int (nI σ.2.1.length)) dX7_tell_51 fkX7_160 (rw_g0 hA) (congrArg (fun z => some (Value.int z)) (h8)) ?_
        refine ax_iload_n dX7_tell_54 rfl ?_
        refine ax_iast dX7_tell_55 (rw_g4 hA) (nI_in hl (by decide)) ?_
        refine ax_eqh (rw_pa4 hA) ?_
        refine ax_aload_n dX7_tell_56 rfl ?_
        refine ax_dup dX7_tell_57 rfl ?_
        refine ax_get (v := .int (nI σ.2.1.length)) dX7_tell_58 fkX7_160 (rw_g0 hA) (congrArg (fun z => some (Value.int z)) (h8)) ?_
        refine ax_iconst (v := 1) dX7_tell_61 (by decide) ?_
        refine ax_iadd dX7_tell_62 ?_
        refine ax_top (y := (nI (σ.2.1.length + 1))) (nI_1 _) ?_
        refine ax_put dX7_tell_63 fpX7_160 (rw_g0 hA) rfl rfl (Nat.le_of_ble_eq_true rfl) ?_
        refine ax_eqh (rw_ps8 hA) ?_
        refine ax_aload_n dX7_tell_66 rfl ?_
        refine ax_get (v := .int (nI (σ.2.1.length + 1))) dX7_tell_67 fkX7_160 (rw_g0 hA) (congrArg (fun z => some (Value.int z)) (rfl)) ?_
        exact ax_iret (st := []) dX7_tell_70 rfl rfl ⟨_, h, _, rfl, rfl, hx_rfl h, hFin, rfl, fun _ => rfl⟩
  · rw [show po_tell σ c = ((1, 0), σ) from if_pos hr]
    have w5 : ¬ ((0 : Int32) ≤ c ∧ c ≤ 5) := fun z => hr (Or.inl (q5.mp z))
    have w6 : ¬ ((100 : Int32) ≤ c ∧ c ≤ 105) := fun z => hr (Or.inr (q6.mp z))
    refine ax_aload_n dX7_tell_0 rfl ?_
    refine ax_iconst (v := 0) dX7_tell_1 (by decide) ?_
    refine ax_put dX7_tell_2 fpX7_52 (rw_g0 hA) rfl rfl (Nat.le_of_ble_eq_true rfl) ?_
    refine ax_eqh (rw_ps0 hA) ?_
    refine ax_iload_n dX7_tell_5 rfl ?_
    refine ax_iconst (v := 0) dX7_tell_6 (by decide) ?_
    refine ax_iconst (v := 5) dX7_tell_7 (by decide) ?_
    refine ax_callS (av := [.int c, .int 0, .int 5]) (rest := []) (mc' := 0) (ms' := 0) dX7_tell_8 rfl lkX7_58 rfl (Nat.le_of_ble_eq_true rfl) (Nat.le_of_ble_eq_true rfl) (by omega) (by omega) (r_isIn _ _ c 0 5) (fun E9 h9 q9 => by cases q9.1) (fun v9 h9 q9 => ?_)
    obtain ⟨e9, rfl⟩ := q9
    cases e9
    rw [if_neg w5]
    show AW G mX7_tell (d + 48) 0 0 _ 11 [(0, .ref (A.1 0)), (1, .int c)] [.int 0] (rw_O A (rw_setS R 0 0) h) 0 0
    refine ax_if_ne (tgt := 31) dX7_tell_11 (by decide) (fun z => absurd rfl z) (fun _ => ?_)
    refine ax_iload_n dX7_tell_14 rfl ?_
    refine ax_bipush (v := 100) dX7_tell_15 (by decide) ?_
    refine ax_bipush (v := 105) dX7_tell_17 (by decide) ?_
    refine ax_callS (av := [.int c, .int 100, .int 105]) (rest := []) (mc' := 0) (ms' := 0) dX7_tell_19 rfl lkX7_58 rfl (Nat.le_of_ble_eq_true rfl) (Nat.le_of_ble_eq_true rfl) (by omega) (by omega) (r_isIn _ _ c 100 105) (fun E9 h9 q9 => by cases q9.1) (fun v9 h9 q9 => ?_)
    obtain ⟨e9, rfl⟩ := q9
    cases e9
    rw [if_neg w6]
    show AW G mX7_tell (d + 48) 0 0 _ 22 [(0, .ref (A.1 0)), (1, .int c)] [.int 0] (rw_O A (rw_setS R 0 0) h) 0 0
    refine ax_if_ne (tgt := 31) dX7_tell_22 (by decide) (fun z => absurd rfl z) (fun _ => ?_)
    refine ax_aload_n dX7_tell_25 rfl ?_
    refine ax_iconst (v := 1) dX7_tell_26 (by decide) ?_
    refine ax_callV (b := (A.1 0)) (av := [.int 1]) (rest := []) (mc' := 0) (ms' := 0) dX7_tell_27 rfl lkX7_72 (rw_g0 hA) rfl (Nat.le_of_ble_eq_true rfl) (Nat.le_of_ble_eq_true rfl) (by omega) (by omega) (r_fail hA _ (rw_setS R 0 0) h 1) (fun E9 h9 q9 => by cases q9.1) (fun v9 h9 q9 => ?_)
    obtain ⟨e9, rfl⟩ := q9
    cases e9
    show AW G mX7_tell (d + 48) 0 0 _ 30 [(0, .ref (A.1 0)), (1, .int c)] [.int 0] (rw_O A (rw_setS (rw_setS R 0 0) 0 1) h) 0 0
    exact ax_iret (st := []) dX7_tell_30 rfl rfl ⟨_, h, _, rfl, rfl, hx_rfl h, RI_s0 1 (RI_s0 0 hR), rfl, fun z => Nat.noConfusion z⟩
end RP2
