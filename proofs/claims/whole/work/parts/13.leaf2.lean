/-! ===== more methods without loops ===== -/
theorem ax_out4 {x : Int32} (h1 : ¬ x.toInt = 1) (h2 : ¬ x.toInt = 2) (h3 : ¬ x.toInt = 3) (h4 : ¬ x.toInt = 4) : x.toInt < 1 ∨ 4 < x.toInt := by omega
theorem ax_rfv (x : Option Nat) : va_rf x = .null ∨ ∃ a, va_rf x = .ref a := by cases x with | none => exact Or.inl rfl | some a => exact Or.inr ⟨a, rfl⟩
theorem ax_hc {k nc : Int32} (h : ¬ ((if k < 0 then 0 else (if nc ≤ k then 0 else (if 6 ≤ k then 0 else 1))) : Int32) = 0) : ¬ k < 0 ∧ ¬ nc ≤ k ∧ ¬ (6 : Int32) ≤ k := by
  by_cases h1 : k < 0
  · rw [if_pos h1] at h; exact absurd rfl h
  · rw [if_neg h1] at h
    by_cases h2 : nc ≤ k
    · rw [if_pos h2] at h; exact absurd rfl h
    · rw [if_neg h2] at h
      by_cases h3 : (6 : Int32) ≤ k
      · rw [if_pos h3] at h; exact absurd rfl h
      · exact ⟨h1, h2, h3⟩
theorem ax_lin {k q M : Int32} {a b w : Nat} (h0 : ¬ k < 0) (h1 : ¬ nI a ≤ k) (h2 : ¬ q < 0) (h3 : ¬ nI b ≤ q) (ha : a < 2000) (hb : b ≤ 2000) (hw : w ≤ 2000) (hM : M = nI w) (hbw : b ≤ w) : vp_in (k * M + q) (a * w) := by
  obtain ⟨i, hi, rfl⟩ := nI_of h0
  obtain ⟨j, hj, rfl⟩ := nI_of h2
  rw [nI_leI (by omega) hi] at h1
  rw [nI_leI (by omega) hj] at h3
  subst hM
  rw [pk_mul, nI_add]
  refine vp_in_nI ?_ ?_
  · have h5 : (i + 1) * w ≤ a * w := Nat.mul_le_mul_right w (by omega)
    have h6 : (i + 1) * w = i * w + w := Nat.succ_mul i w
    omega
  · have : a * w ≤ 2000 * 2000 := Nat.mul_le_mul (by omega) hw
    omega
theorem ax_hcin {k nc : Int32} (h : ¬ ((if k < 0 then 0 else (if nc ≤ k then 0 else (if 6 ≤ k then 0 else 1))) : Int32) = 0) : vp_in k 6 := ax_in (ax_hc h).1 (ax_hc h).2.2 (by decide)
theorem ax_nle {x y : Int32} (h : x < y) : ¬ y ≤ x := by rw [Int32.lt_iff_toInt_lt] at h; rw [Int32.le_iff_toInt_le]; omega
theorem ax_nlt {x y : Int32} (h : x ≤ y) : ¬ y < x := by rw [Int32.le_iff_toInt_le] at h; rw [Int32.lt_iff_toInt_lt]; omega
theorem ax_lt {x y : Int32} (h : ¬ y ≤ x) : x < y := by rw [Int32.le_iff_toInt_le] at h; rw [Int32.lt_iff_toInt_lt]; omega
theorem ax_le {x y : Int32} (h : ¬ y < x) : x ≤ y := by rw [Int32.lt_iff_toInt_lt] at h; rw [Int32.le_iff_toInt_le]; omega
theorem ax_le8 {x : Int32} (h : x ≤ 8) : x < 9 := by rw [Int32.le_iff_toInt_le] at h; rw [Int32.lt_iff_toInt_lt]; have e1 : (8 : Int32).toInt = 8 := by decide
                                                     have e2 : (9 : Int32).toInt = 9 := by decide
                                                     omega
theorem ax_p1 {x : Int32} : x + 1 - 1 = x := by rw [Int32.add_sub_cancel]
set_option maxRecDepth 100000 in
set_option maxHeartbeats 4000000 in
theorem ctX1_typeOf {G : ax_G} (d : Nat) (h : ax_H) (a : Nat) (lo hi ty nc : Int32) (gO gP gT gC : Nat) (k : Int32) (fO : Nat → Int32) (hn : ([a, gO] : List Nat).Nodup) : AW G mX1_typeOf (d + 1) 0 0 (fun r h1 => r = .inl (some (.int (if ((if k < 0 then 0 else (if nc ≤ k then 0 else (if (6 : Int32) ≤ k then 0 else 1))) : Int32) = 0 then (-1) else fO k.toNatClampNeg))) ∧ h1 = ax_w h [(a, .inr (1, [.int lo, .int hi, .int ty, .int nc, .ref gO, .ref gP, .ref gT, .ref gC])), (gO, .inl (0, 6, .inl fO))]) 0 [(0, .ref a), (1, .int k)] [] (ax_w h [(a, .inr (1, [.int lo, .int hi, .int ty, .int nc, .ref gO, .ref gP, .ref gT, .ref gC])), (gO, .inl (0, 6, .inl fO))]) 0 0 := by
  obtain ⟨Q, hQ⟩ : ∃ Q : ax_P, Q = (fun r h1 => r = .inl (some (.int (if ((if k < 0 then 0 else (if nc ≤ k then 0 else (if (6 : Int32) ≤ k then 0 else 1))) : Int32) = 0 then (-1) else fO k.toNatClampNeg))) ∧ h1 = ax_w h [(a, .inr (1, [.int lo, .int hi, .int ty, .int nc, .ref gO, .ref gP, .ref gT, .ref gC])), (gO, .inl (0, 6, .inl fO))]) := ⟨_, rfl⟩
  rw [← hQ]
  refine ax_aload_n dX1_typeOf_0 rfl ?_
  refine ax_iload_n dX1_typeOf_1 rfl ?_
  refine ax_callV (b := a) (av := [.int k]) (rest := []) (mc' := 0) (ms' := 0) dX1_typeOf_2 rfl lkX1_44 (ax_w_get hn (i := 0) rfl) rfl (Nat.le_of_ble_eq_true rfl) (Nat.le_of_ble_eq_true rfl) (Nat.le_refl 0) (Nat.le_refl 0) (ax_eqh (ax_w_sub (l := [(a, .inr (1, [.int lo, .int hi, .int ty, .int nc, .ref gO, .ref gP, .ref gT, .ref gC])), (gO, .inl (0, 6, .inl fO))]) (lc := [(a, .inr (1, [.int lo, .int hi, .int ty, .int nc, .ref gO, .ref gP, .ref gT, .ref gC]))]) hn [0] rfl).symm (ctX1_hasConstructor _ _ a lo hi ty nc gO gP gT gC k (ax_nd [0] hn rfl (by decide)))) (fun E9 h9 q9 => by cases q9.1) (fun v9 h9 q9 => ?_)
  obtain ⟨e9, rfl⟩ := q9
  cases e9
  refine ax_eqh (ax_w_ov (l := [(a, .inr (1, [.int lo, .int hi, .int ty, .int nc, .ref gO, .ref gP, .ref gT, .ref gC])), (gO, .inl (0, 6, .inl fO))]) (lc := [(a, .inr (1, [.int lo, .int hi, .int ty, .int nc, .ref gO, .ref gP, .ref gT, .ref gC]))]) (l' := [(a, .inr (1, [.int lo, .int hi, .int ty, .int nc, .ref gO, .ref gP, .ref gT, .ref gC])), (gO, .inl (0, 6, .inl fO))]) hn [0] rfl rfl) ?_
  show AW G mX1_typeOf (d + 1) 0 0 Q 5 [(0, .ref a), (1, .int k)] [.int (if k < 0 then 0 else (if nc ≤ k then 0 else (if (6 : Int32) ≤ k then 0 else 1)))] _ 0 0
  have J18 : AW G mX1_typeOf (d + 1) 0 0 Q 18 [(0, .ref a), (1, .int k)] [.int (if ((if k < 0 then 0 else (if nc ≤ k then 0 else (if (6 : Int32) ≤ k then 0 else 1))) : Int32) = 0 then (-1) else fO k.toNatClampNeg)] (ax_w h [(a, .inr (1, [.int lo, .int hi, .int ty, .int nc, .ref gO, .ref gP, .ref gT, .ref gC])), (gO, .inl (0, 6, .inl fO))]) 0 0 := by
    exact ax_iret (st := []) dX1_typeOf_18 rfl (by repeat (first | rfl | split)) (by rw [hQ]; refine ⟨?_, ?_⟩ <;> (try rfl))
  refine ax_if_eq (tgt := 17) dX1_typeOf_5 (by decide) (fun c1 => ?_) (fun c1 => ?_)
  · refine ax_iconst (v := (-1)) dX1_typeOf_17 (by decide) ?_
    repeat rw [if_pos c1] at J18
    first | exact J18 | contradiction
  · refine ax_aload_n dX1_typeOf_8 rfl ?_
    refine ax_wget 0 hn rfl dX1_typeOf_9 fkX1_24 rfl ?_
    refine ax_iload_n dX1_typeOf_12 rfl ?_
    refine ax_wiald 1 hn rfl dX1_typeOf_13 (ax_hcin c1) ?_
    refine ax_goto (tgt := 18) dX1_typeOf_14 (by decide) ?_
    repeat rw [if_neg c1] at J18
    first | exact J18 | contradiction
set_option maxRecDepth 100000 in
set_option maxHeartbeats 4000000 in
theorem ctX1_conditionOf {G : ax_G} (d : Nat) (h : ax_H) (a : Nat) (lo hi ty nc : Int32) (gO gP gT gC : Nat) (k : Int32) (fC : Nat → Int32) (hn : ([a, gC] : List Nat).Nodup) : AW G mX1_conditionOf (d + 1) 0 0 (fun r h1 => r = .inl (some (.int (if ((if k < 0 then 0 else (if nc ≤ k then 0 else (if (6 : Int32) ≤ k then 0 else 1))) : Int32) = 0 then 0 else fC k.toNatClampNeg))) ∧ h1 = ax_w h [(a, .inr (1, [.int lo, .int hi, .int ty, .int nc, .ref gO, .ref gP, .ref gT, .ref gC])), (gC, .inl (0, 6, .inl fC))]) 0 [(0, .ref a), (1, .int k)] [] (ax_w h [(a, .inr (1, [.int lo, .int hi, .int ty, .int nc, .ref gO, .ref gP, .ref gT, .ref gC])), (gC, .inl (0, 6, .inl fC))]) 0 0 := by
  obtain ⟨Q, hQ⟩ : ∃ Q : ax_P, Q = (fun r h1 => r = .inl (some (.int (if ((if k < 0 then 0 else (if nc ≤ k then 0 else (if (6 : Int32) ≤ k then 0 else 1))) : Int32) = 0 then 0 else fC k.toNatClampNeg))) ∧ h1 = ax_w h [(a, .inr (1, [.int lo, .int hi, .int ty, .int nc, .ref gO, .ref gP, .ref gT, .ref gC])), (gC, .inl (0, 6, .inl fC))]) := ⟨_, rfl⟩
  rw [← hQ]
  refine ax_aload_n dX1_conditionOf_0 rfl ?_
  refine ax_iload_n dX1_conditionOf_1 rfl ?_
  refine ax_callV (b := a) (av := [.int k]) (rest := []) (mc' := 0) (ms' := 0) dX1_conditionOf_2 rfl lkX1_44 (ax_w_get hn (i := 0) rfl) rfl (Nat.le_of_ble_eq_true rfl) (Nat.le_of_ble_eq_true rfl) (Nat.le_refl 0) (Nat.le_refl 0) (ax_eqh (ax_w_sub (l := [(a, .inr (1, [.int lo, .int hi, .int ty, .int nc, .ref gO, .ref gP, .ref gT, .ref gC])), (gC, .inl (0, 6, .inl fC))]) (lc := [(a, .inr (1, [.int lo, .int hi, .int ty, .int nc, .ref gO, .ref gP, .ref gT, .ref gC]))]) hn [0] rfl).symm (ctX1_hasConstructor _ _ a lo hi ty nc gO gP gT gC k (ax_nd [0] hn rfl (by decide)))) (fun E9 h9 q9 => by cases q9.1) (fun v9 h9 q9 => ?_)
  obtain ⟨e9, rfl⟩ := q9
  cases e9
  refine ax_eqh (ax_w_ov (l := [(a, .inr (1, [.int lo, .int hi, .int ty, .int nc, .ref gO, .ref gP, .ref gT, .ref gC])), (gC, .inl (0, 6, .inl fC))]) (lc := [(a, .inr (1, [.int lo, .int hi, .int ty, .int nc, .ref gO, .ref gP, .ref gT, .ref gC]))]) (l' := [(a, .inr (1, [.int lo, .int hi, .int ty, .int nc, .ref gO, .ref gP, .ref gT, .ref gC])), (gC, .inl (0, 6, .inl fC))]) hn [0] rfl rfl) ?_
  show AW G mX1_conditionOf (d + 1) 0 0 Q 5 [(0, .ref a), (1, .int k)] [.int (if k < 0 then 0 else (if nc ≤ k then 0 else (if (6 : Int32) ≤ k then 0 else 1)))] _ 0 0
  have J18 : AW G mX1_conditionOf (d + 1) 0 0 Q 18 [(0, .ref a), (1, .int k)] [.int (if ((if k < 0 then 0 else (if nc ≤ k then 0 else (if (6 : Int32) ≤ k then 0 else 1))) : Int32) = 0 then 0 else fC k.toNatClampNeg)] (ax_w h [(a, .inr (1, [.int lo, .int hi, .int ty, .int nc, .ref gO, .ref gP, .ref gT, .ref gC])), (gC, .inl (0, 6, .inl fC))]) 0 0 := by
    exact ax_iret (st := []) dX1_conditionOf_18 rfl (by repeat (first | rfl | split)) (by rw [hQ]; refine ⟨?_, ?_⟩ <;> (try rfl))
  refine ax_if_eq (tgt := 17) dX1_conditionOf_5 (by decide) (fun c1 => ?_) (fun c1 => ?_)
  · refine ax_iconst (v := 0) dX1_conditionOf_17 (by decide) ?_
    repeat rw [if_pos c1] at J18
    first | exact J18 | contradiction
  · refine ax_aload_n dX1_conditionOf_8 rfl ?_
    refine ax_wget 0 hn rfl dX1_conditionOf_9 fkX1_34 rfl ?_
    refine ax_iload_n dX1_conditionOf_12 rfl ?_
    refine ax_wiald 1 hn rfl dX1_conditionOf_13 (ax_hcin c1) ?_
    refine ax_goto (tgt := 18) dX1_conditionOf_14 (by decide) ?_
    repeat rw [if_neg c1] at J18
    first | exact J18 | contradiction
set_option maxRecDepth 100000 in
set_option maxHeartbeats 4000000 in
theorem ctX1_parameter {G : ax_G} (d : Nat) (h : ax_H) (a : Nat) (lo hi ty nc : Int32) (gO gP gT gC : Nat) (k : Int32) (q : Int32) (fP : Nat → Int32) (hn : ([a, gP] : List Nat).Nodup) : AW G mX1_parameter (d + 1) 0 0 (fun r h1 => r = .inl (some (.int (if ((if k < 0 then 0 else (if nc ≤ k then 0 else (if (6 : Int32) ≤ k then 0 else 1))) : Int32) = 0 then (-1) else (if q < 0 then (-1) else (if q < (3 : Int32) then fP ((k * 3) + q).toNatClampNeg else (-1)))))) ∧ h1 = ax_w h [(a, .inr (1, [.int lo, .int hi, .int ty, .int nc, .ref gO, .ref gP, .ref gT, .ref gC])), (gP, .inl (0, 18, .inl fP))]) 0 [(0, .ref a), (1, .int k), (2, .int q)] [] (ax_w h [(a, .inr (1, [.int lo, .int hi, .int ty, .int nc, .ref gO, .ref gP, .ref gT, .ref gC])), (gP, .inl (0, 18, .inl fP))]) 0 0 := by
  obtain ⟨Q, hQ⟩ : ∃ Q : ax_P, Q = (fun r h1 => r = .inl (some (.int (if ((if k < 0 then 0 else (if nc ≤ k then 0 else (if (6 : Int32) ≤ k then 0 else 1))) : Int32) = 0 then (-1) else (if q < 0 then (-1) else (if q < (3 : Int32) then fP ((k * 3) + q).toNatClampNeg else (-1)))))) ∧ h1 = ax_w h [(a, .inr (1, [.int lo, .int hi, .int ty, .int nc, .ref gO, .ref gP, .ref gT, .ref gC])), (gP, .inl (0, 18, .inl fP))]) := ⟨_, rfl⟩
  rw [← hQ]
  refine ax_aload_n dX1_parameter_0 rfl ?_
  refine ax_iload_n dX1_parameter_1 rfl ?_
  refine ax_callV (b := a) (av := [.int k]) (rest := []) (mc' := 0) (ms' := 0) dX1_parameter_2 rfl lkX1_44 (ax_w_get hn (i := 0) rfl) rfl (Nat.le_of_ble_eq_true rfl) (Nat.le_of_ble_eq_true rfl) (Nat.le_refl 0) (Nat.le_refl 0) (ax_eqh (ax_w_sub (l := [(a, .inr (1, [.int lo, .int hi, .int ty, .int nc, .ref gO, .ref gP, .ref gT, .ref gC])), (gP, .inl (0, 18, .inl fP))]) (lc := [(a, .inr (1, [.int lo, .int hi, .int ty, .int nc, .ref gO, .ref gP, .ref gT, .ref gC]))]) hn [0] rfl).symm (ctX1_hasConstructor _ _ a lo hi ty nc gO gP gT gC k (ax_nd [0] hn rfl (by decide)))) (fun E9 h9 q9 => by cases q9.1) (fun v9 h9 q9 => ?_)
  obtain ⟨e9, rfl⟩ := q9
  cases e9
  refine ax_eqh (ax_w_ov (l := [(a, .inr (1, [.int lo, .int hi, .int ty, .int nc, .ref gO, .ref gP, .ref gT, .ref gC])), (gP, .inl (0, 18, .inl fP))]) (lc := [(a, .inr (1, [.int lo, .int hi, .int ty, .int nc, .ref gO, .ref gP, .ref gT, .ref gC]))]) (l' := [(a, .inr (1, [.int lo, .int hi, .int ty, .int nc, .ref gO, .ref gP, .ref gT, .ref gC])), (gP, .inl (0, 18, .inl fP))]) hn [0] rfl rfl) ?_
  show AW G mX1_parameter (d + 1) 0 0 Q 5 [(0, .ref a), (1, .int k), (2, .int q)] [.int (if k < 0 then 0 else (if nc ≤ k then 0 else (if (6 : Int32) ≤ k then 0 else 1)))] _ 0 0
  refine ax_if_eq (tgt := 17) dX1_parameter_5 (by decide) (fun c1 => ?_) (fun c1 => ?_)
  · refine ax_iconst (v := (-1)) dX1_parameter_17 (by decide) ?_
    exact ax_iret (st := []) dX1_parameter_18 rfl (by repeat (first | rfl | split)) (by rw [hQ]; refine ⟨?_, ?_⟩ <;> (repeat rw [if_pos c1]) <;> (try rfl))
  · refine ax_iload_n dX1_parameter_8 rfl ?_
    refine ax_if_lt (tgt := 17) dX1_parameter_9 (by decide) (fun c2 => ?_) (fun c2 => ?_)
    · refine ax_iconst (v := (-1)) dX1_parameter_17 (by decide) ?_
      exact ax_iret (st := []) dX1_parameter_18 rfl (by repeat (first | rfl | split)) (by rw [hQ]; refine ⟨?_, ?_⟩ <;> (repeat rw [if_neg c1]) <;> (repeat rw [if_pos c2]) <;> (try rfl))
    · refine ax_iload_n dX1_parameter_12 rfl ?_
      refine ax_iconst (v := 3) dX1_parameter_13 (by decide) ?_
      refine ax_icmp_lt (tgt := 19) dX1_parameter_14 (by decide) (fun c3 => ?_) (fun c3 => ?_)
      · refine ax_aload_n dX1_parameter_19 rfl ?_
        refine ax_wget 0 hn rfl dX1_parameter_20 fkX1_28 rfl ?_
        refine ax_iload_n dX1_parameter_23 rfl ?_
        refine ax_iconst (v := 3) dX1_parameter_24 (by decide) ?_
        refine ax_imul dX1_parameter_25 ?_
        refine ax_iload_n dX1_parameter_26 rfl ?_
        refine ax_iadd dX1_parameter_27 ?_
        refine ax_wiald 1 hn rfl dX1_parameter_28 (ax_lin (M := 3) (a := 6) (b := 3) (w := 3) (ax_hc c1).1 (ax_hc c1).2.2 c2 (ax_nle c3) (by decide) (by decide) (by decide) (by decide) (by decide)) ?_
        exact ax_iret (st := []) dX1_parameter_29 rfl (by repeat (first | rfl | split)) (by rw [hQ]; refine ⟨?_, ?_⟩ <;> (repeat rw [if_neg c1]) <;> (repeat rw [if_neg c2]) <;> (repeat rw [if_pos c3]) <;> (try rfl))
      · refine ax_iconst (v := (-1)) dX1_parameter_17 (by decide) ?_
        exact ax_iret (st := []) dX1_parameter_18 rfl (by repeat (first | rfl | split)) (by rw [hQ]; refine ⟨?_, ?_⟩ <;> (repeat rw [if_neg c1]) <;> (repeat rw [if_neg c2]) <;> (repeat rw [if_neg c3]) <;> (try rfl))
set_option maxRecDepth 100000 in
set_option maxHeartbeats 4000000 in
theorem ctX1_typesFrom {G : ax_G} (d : Nat) (h : ax_H) (a : Nat) (lo hi ty nc : Int32) (gO gP gT gC : Nat) (k : Int32) (q : Int32) (fT : Nat → Int32) (hn : ([a, gT] : List Nat).Nodup) : AW G mX1_typesFrom (d + 1) 0 0 (fun r h1 => r = .inl (some (.int (if ((if k < 0 then 0 else (if nc ≤ k then 0 else (if (6 : Int32) ≤ k then 0 else 1))) : Int32) = 0 then 0 else (if q < 0 then 0 else (if q < (3 : Int32) then fT ((k * 3) + q).toNatClampNeg else 0))))) ∧ h1 = ax_w h [(a, .inr (1, [.int lo, .int hi, .int ty, .int nc, .ref gO, .ref gP, .ref gT, .ref gC])), (gT, .inl (0, 18, .inl fT))]) 0 [(0, .ref a), (1, .int k), (2, .int q)] [] (ax_w h [(a, .inr (1, [.int lo, .int hi, .int ty, .int nc, .ref gO, .ref gP, .ref gT, .ref gC])), (gT, .inl (0, 18, .inl fT))]) 0 0 := by
  obtain ⟨Q, hQ⟩ : ∃ Q : ax_P, Q = (fun r h1 => r = .inl (some (.int (if ((if k < 0 then 0 else (if nc ≤ k then 0 else (if (6 : Int32) ≤ k then 0 else 1))) : Int32) = 0 then 0 else (if q < 0 then 0 else (if q < (3 : Int32) then fT ((k * 3) + q).toNatClampNeg else 0))))) ∧ h1 = ax_w h [(a, .inr (1, [.int lo, .int hi, .int ty, .int nc, .ref gO, .ref gP, .ref gT, .ref gC])), (gT, .inl (0, 18, .inl fT))]) := ⟨_, rfl⟩
  rw [← hQ]
  refine ax_aload_n dX1_typesFrom_0 rfl ?_
  refine ax_iload_n dX1_typesFrom_1 rfl ?_
  refine ax_callV (b := a) (av := [.int k]) (rest := []) (mc' := 0) (ms' := 0) dX1_typesFrom_2 rfl lkX1_44 (ax_w_get hn (i := 0) rfl) rfl (Nat.le_of_ble_eq_true rfl) (Nat.le_of_ble_eq_true rfl) (Nat.le_refl 0) (Nat.le_refl 0) (ax_eqh (ax_w_sub (l := [(a, .inr (1, [.int lo, .int hi, .int ty, .int nc, .ref gO, .ref gP, .ref gT, .ref gC])), (gT, .inl (0, 18, .inl fT))]) (lc := [(a, .inr (1, [.int lo, .int hi, .int ty, .int nc, .ref gO, .ref gP, .ref gT, .ref gC]))]) hn [0] rfl).symm (ctX1_hasConstructor _ _ a lo hi ty nc gO gP gT gC k (ax_nd [0] hn rfl (by decide)))) (fun E9 h9 q9 => by cases q9.1) (fun v9 h9 q9 => ?_)
  obtain ⟨e9, rfl⟩ := q9
  cases e9
  refine ax_eqh (ax_w_ov (l := [(a, .inr (1, [.int lo, .int hi, .int ty, .int nc, .ref gO, .ref gP, .ref gT, .ref gC])), (gT, .inl (0, 18, .inl fT))]) (lc := [(a, .inr (1, [.int lo, .int hi, .int ty, .int nc, .ref gO, .ref gP, .ref gT, .ref gC]))]) (l' := [(a, .inr (1, [.int lo, .int hi, .int ty, .int nc, .ref gO, .ref gP, .ref gT, .ref gC])), (gT, .inl (0, 18, .inl fT))]) hn [0] rfl rfl) ?_
  show AW G mX1_typesFrom (d + 1) 0 0 Q 5 [(0, .ref a), (1, .int k), (2, .int q)] [.int (if k < 0 then 0 else (if nc ≤ k then 0 else (if (6 : Int32) ≤ k then 0 else 1)))] _ 0 0
  refine ax_if_eq (tgt := 17) dX1_typesFrom_5 (by decide) (fun c1 => ?_) (fun c1 => ?_)
  · refine ax_iconst (v := 0) dX1_typesFrom_17 (by decide) ?_
    exact ax_iret (st := []) dX1_typesFrom_18 rfl (by repeat (first | rfl | split)) (by rw [hQ]; refine ⟨?_, ?_⟩ <;> (repeat rw [if_pos c1]) <;> (try rfl))
  · refine ax_iload_n dX1_typesFrom_8 rfl ?_
    refine ax_if_lt (tgt := 17) dX1_typesFrom_9 (by decide) (fun c2 => ?_) (fun c2 => ?_)
    · refine ax_iconst (v := 0) dX1_typesFrom_17 (by decide) ?_
      exact ax_iret (st := []) dX1_typesFrom_18 rfl (by repeat (first | rfl | split)) (by rw [hQ]; refine ⟨?_, ?_⟩ <;> (repeat rw [if_neg c1]) <;> (repeat rw [if_pos c2]) <;> (try rfl))
    · refine ax_iload_n dX1_typesFrom_12 rfl ?_
      refine ax_iconst (v := 3) dX1_typesFrom_13 (by decide) ?_
      refine ax_icmp_lt (tgt := 19) dX1_typesFrom_14 (by decide) (fun c3 => ?_) (fun c3 => ?_)
      · refine ax_aload_n dX1_typesFrom_19 rfl ?_
        refine ax_wget 0 hn rfl dX1_typesFrom_20 fkX1_31 rfl ?_
        refine ax_iload_n dX1_typesFrom_23 rfl ?_
        refine ax_iconst (v := 3) dX1_typesFrom_24 (by decide) ?_
        refine ax_imul dX1_typesFrom_25 ?_
        refine ax_iload_n dX1_typesFrom_26 rfl ?_
        refine ax_iadd dX1_typesFrom_27 ?_
        refine ax_wiald 1 hn rfl dX1_typesFrom_28 (ax_lin (M := 3) (a := 6) (b := 3) (w := 3) (ax_hc c1).1 (ax_hc c1).2.2 c2 (ax_nle c3) (by decide) (by decide) (by decide) (by decide) (by decide)) ?_
        exact ax_iret (st := []) dX1_typesFrom_29 rfl (by repeat (first | rfl | split)) (by rw [hQ]; refine ⟨?_, ?_⟩ <;> (repeat rw [if_neg c1]) <;> (repeat rw [if_neg c2]) <;> (repeat rw [if_pos c3]) <;> (try rfl))
      · refine ax_iconst (v := 0) dX1_typesFrom_17 (by decide) ?_
        exact ax_iret (st := []) dX1_typesFrom_18 rfl (by repeat (first | rfl | split)) (by rw [hQ]; refine ⟨?_, ?_⟩ <;> (repeat rw [if_neg c1]) <;> (repeat rw [if_neg c2]) <;> (repeat rw [if_neg c3]) <;> (try rfl))
set_option maxRecDepth 100000 in
set_option maxHeartbeats 4000000 in
theorem ctX5_addNumber {G : ax_G} (d : Nat) (h : ax_H) (a n p : Nat) (V : Nat → Int32) (k : Int32) (fN : Nat → Int32) (fR : Nat → Option Nat) (h0 : ¬ V 3 < 0) (h1 : V 3 < 3) (hn : ([a, n, p] : List Nat).Nodup) : AW G mX5_addNumber (d + 1) 0 0 (fun r h1 => r = .inl none ∧ h1 = ax_w h [(a, .inr (5, [.int (V 0), .int (V 1), .int (V 2), .int ((V 3) + 1), .ref n, .ref p, .int (V 6), .int (V 7), .int (V 8), .int (if 0 ≤ (V 9) then (V 9) else k), .int ((V 10) + 1), .int ((V 11) + k), .int (if (V 10) = 0 then k else (if (V 12) ≤ k then (V 12) else k)), .int k, .int (if (V 10) = 0 then k else (V 14)), .int (if (V 10) = 0 then (V 15) else (if (V 15) = 0 then 0 else (if k ≤ (V 13) then 0 else 1)))])), (n, .inl (0, 3, .inl (upd fN (V 3).toNatClampNeg k))), (p, .inl (3, 3, .inr (.inr (.inr (.inr (va_up fR (V 3).toNatClampNeg none))))))]) 0 [(0, .ref a), (1, .int k)] [] (ax_w h [(a, .inr (5, [.int (V 0), .int (V 1), .int (V 2), .int (V 3), .ref n, .ref p, .int (V 6), .int (V 7), .int (V 8), .int (V 9), .int (V 10), .int (V 11), .int (V 12), .int (V 13), .int (V 14), .int (V 15)])), (n, .inl (0, 3, .inl fN)), (p, .inl (3, 3, .inr (.inr (.inr (.inr fR)))))]) 0 0 := by
  obtain ⟨Q, hQ⟩ : ∃ Q : ax_P, Q = (fun r h1 => r = .inl none ∧ h1 = ax_w h [(a, .inr (5, [.int (V 0), .int (V 1), .int (V 2), .int ((V 3) + 1), .ref n, .ref p, .int (V 6), .int (V 7), .int (V 8), .int (if 0 ≤ (V 9) then (V 9) else k), .int ((V 10) + 1), .int ((V 11) + k), .int (if (V 10) = 0 then k else (if (V 12) ≤ k then (V 12) else k)), .int k, .int (if (V 10) = 0 then k else (V 14)), .int (if (V 10) = 0 then (V 15) else (if (V 15) = 0 then 0 else (if k ≤ (V 13) then 0 else 1)))])), (n, .inl (0, 3, .inl (upd fN (V 3).toNatClampNeg k))), (p, .inl (3, 3, .inr (.inr (.inr (.inr (va_up fR (V 3).toNatClampNeg none))))))]) := ⟨_, rfl⟩
  rw [← hQ]
  refine ax_aload_n dX5_addNumber_0 rfl ?_
  refine ax_wget 0 hn rfl dX5_addNumber_1 fkX5_29 rfl ?_
  refine ax_if_lt (tgt := 15) dX5_addNumber_4 (by decide) (fun z => absurd z h0) (fun _ => ?_)
  refine ax_aload_n dX5_addNumber_7 rfl ?_
  refine ax_wget 0 hn rfl dX5_addNumber_8 fkX5_29 rfl ?_
  refine ax_iconst (v := 3) dX5_addNumber_11 (by decide) ?_
  refine ax_icmp_lt (tgt := 16) dX5_addNumber_12 (by decide) (fun _ => ?_) (fun z => absurd h1 z)
  refine ax_aload_n dX5_addNumber_16 rfl ?_
  refine ax_wget 0 hn rfl dX5_addNumber_17 fkX5_9 rfl ?_
  refine ax_aload_n dX5_addNumber_20 rfl ?_
  refine ax_wget 0 hn rfl dX5_addNumber_21 fkX5_29 rfl ?_
  refine ax_iload_n dX5_addNumber_24 rfl ?_
  refine ax_wiast (l' := [(a, .inr (5, [.int (V 0), .int (V 1), .int (V 2), .int (V 3), .ref n, .ref p, .int (V 6), .int (V 7), .int (V 8), .int (V 9), .int (V 10), .int (V 11), .int (V 12), .int (V 13), .int (V 14), .int (V 15)])), (n, .inl (0, 3, .inl (upd fN (V 3).toNatClampNeg k))), (p, .inl (3, 3, .inr (.inr (.inr (.inr fR)))))]) 1 hn rfl dX5_addNumber_25 (ax_in h0 (ax_nle h1) (by decide)) rfl ?_
  refine ax_aload_n dX5_addNumber_26 rfl ?_
  refine ax_wget 0 hn rfl dX5_addNumber_27 fkX5_15 rfl ?_
  refine ax_aload_n dX5_addNumber_30 rfl ?_
  refine ax_wget 0 hn rfl dX5_addNumber_31 fkX5_29 rfl ?_
  refine ax_null dX5_addNumber_34 ?_
  refine ax_waast3N (l' := [(a, .inr (5, [.int (V 0), .int (V 1), .int (V 2), .int (V 3), .ref n, .ref p, .int (V 6), .int (V 7), .int (V 8), .int (V 9), .int (V 10), .int (V 11), .int (V 12), .int (V 13), .int (V 14), .int (V 15)])), (n, .inl (0, 3, .inl (upd fN (V 3).toNatClampNeg k))), (p, .inl (3, 3, .inr (.inr (.inr (.inr (va_up fR (V 3).toNatClampNeg none))))))]) 2 hn rfl dX5_addNumber_35 (ax_in h0 (ax_nle h1) (by decide)) rfl ?_
  refine ax_aload_n dX5_addNumber_36 rfl ?_
  refine ax_dup dX5_addNumber_37 rfl ?_
  refine ax_wget 0 hn rfl dX5_addNumber_38 fkX5_29 rfl ?_
  refine ax_iconst (v := 1) dX5_addNumber_41 (by decide) ?_
  refine ax_iadd dX5_addNumber_42 ?_
  refine ax_wput (l' := [(a, .inr (5, [.int (V 0), .int (V 1), .int (V 2), .int ((V 3) + 1), .ref n, .ref p, .int (V 6), .int (V 7), .int (V 8), .int (V 9), .int (V 10), .int (V 11), .int (V 12), .int (V 13), .int (V 14), .int (V 15)])), (n, .inl (0, 3, .inl (upd fN (V 3).toNatClampNeg k))), (p, .inl (3, 3, .inr (.inr (.inr (.inr (va_up fR (V 3).toNatClampNeg none))))))]) 0 hn rfl dX5_addNumber_43 fpX5_29 rfl rfl (Nat.le_of_ble_eq_true rfl) rfl ?_
  refine ax_aload_n dX5_addNumber_46 rfl ?_
  refine ax_wget 0 hn rfl dX5_addNumber_47 fkX5_41 rfl ?_
  have J58 : AW G mX5_addNumber (d + 1) 0 0 Q 58 [(0, .ref a), (1, .int k)] [] (ax_w h [(a, .inr (5, [.int (V 0), .int (V 1), .int (V 2), .int ((V 3) + 1), .ref n, .ref p, .int (V 6), .int (V 7), .int (V 8), .int (if 0 ≤ (V 9) then (V 9) else k), .int (V 10), .int (V 11), .int (V 12), .int (V 13), .int (V 14), .int (V 15)])), (n, .inl (0, 3, .inl (upd fN (V 3).toNatClampNeg k))), (p, .inl (3, 3, .inr (.inr (.inr (.inr (va_up fR (V 3).toNatClampNeg none))))))]) 0 0 := by
    refine ax_aload_n dX5_addNumber_58 rfl ?_
    refine ax_iload_n dX5_addNumber_59 rfl ?_
    refine ax_iload_n dX5_addNumber_60 rfl ?_
    refine ax_iload_n dX5_addNumber_61 rfl ?_
    refine ax_callV (b := a) (av := [.int k, .int k, .int k]) (rest := []) (mc' := 0) (ms' := 0) dX5_addNumber_62 rfl lkX5_63 (ax_w_get hn (i := 0) rfl) rfl (Nat.le_of_ble_eq_true rfl) (Nat.le_of_ble_eq_true rfl) (Nat.le_refl 0) (Nat.le_refl 0) (ax_eqh (ax_w_sub (l := [(a, .inr (5, [.int (V 0), .int (V 1), .int (V 2), .int ((V 3) + 1), .ref n, .ref p, .int (V 6), .int (V 7), .int (V 8), .int (if 0 ≤ (V 9) then (V 9) else k), .int (V 10), .int (V 11), .int (V 12), .int (V 13), .int (V 14), .int (V 15)])), (n, .inl (0, 3, .inl (upd fN (V 3).toNatClampNeg k))), (p, .inl (3, 3, .inr (.inr (.inr (.inr (va_up fR (V 3).toNatClampNeg none))))))]) (lc := [(a, .inr (5, [.int (V 0), .int (V 1), .int (V 2), .int ((V 3) + 1), .ref n, .ref p, .int (V 6), .int (V 7), .int (V 8), .int (if 0 ≤ (V 9) then (V 9) else k), .int (V 10), .int (V 11), .int (V 12), .int (V 13), .int (V 14), .int (V 15)]))]) hn [0] rfl).symm (ctX5_joinInts _ _ a n p (fun k9 => if k9 = 0 then (V 0) else if k9 = 1 then (V 1) else if k9 = 2 then (V 2) else if k9 = 3 then ((V 3) + 1) else if k9 = 6 then (V 6) else if k9 = 7 then (V 7) else if k9 = 8 then (V 8) else if k9 = 9 then (if 0 ≤ (V 9) then (V 9) else k) else if k9 = 10 then (V 10) else if k9 = 11 then (V 11) else if k9 = 12 then (V 12) else if k9 = 13 then (V 13) else if k9 = 14 then (V 14) else if k9 = 15 then (V 15) else 0) k k k (ax_nd [0] hn rfl (by decide)))) (fun E9 h9 q9 => by cases q9.1) (fun v9 h9 q9 => ?_)
    obtain ⟨e9, rfl⟩ := q9
    cases e9
    refine ax_eqh (ax_w_ov (l := [(a, .inr (5, [.int (V 0), .int (V 1), .int (V 2), .int ((V 3) + 1), .ref n, .ref p, .int (V 6), .int (V 7), .int (V 8), .int (if 0 ≤ (V 9) then (V 9) else k), .int (V 10), .int (V 11), .int (V 12), .int (V 13), .int (V 14), .int (V 15)])), (n, .inl (0, 3, .inl (upd fN (V 3).toNatClampNeg k))), (p, .inl (3, 3, .inr (.inr (.inr (.inr (va_up fR (V 3).toNatClampNeg none))))))]) (lc := [(a, .inr (5, [.int (V 0), .int (V 1), .int (V 2), .int ((V 3) + 1), .ref n, .ref p, .int (V 6), .int (V 7), .int (V 8), .int (if 0 ≤ (V 9) then (V 9) else k), .int (V 10), .int (V 11), .int (if (V 10) = 0 then k else (if (V 12) ≤ k then (V 12) else k)), .int k, .int (if (V 10) = 0 then k else (V 14)), .int (if (V 10) = 0 then (V 15) else (if (V 15) = 0 then 0 else (if k ≤ (V 13) then 0 else 1)))]))]) (l' := [(a, .inr (5, [.int (V 0), .int (V 1), .int (V 2), .int ((V 3) + 1), .ref n, .ref p, .int (V 6), .int (V 7), .int (V 8), .int (if 0 ≤ (V 9) then (V 9) else k), .int (V 10), .int (V 11), .int (if (V 10) = 0 then k else (if (V 12) ≤ k then (V 12) else k)), .int k, .int (if (V 10) = 0 then k else (V 14)), .int (if (V 10) = 0 then (V 15) else (if (V 15) = 0 then 0 else (if k ≤ (V 13) then 0 else 1)))])), (n, .inl (0, 3, .inl (upd fN (V 3).toNatClampNeg k))), (p, .inl (3, 3, .inr (.inr (.inr (.inr (va_up fR (V 3).toNatClampNeg none))))))]) hn [0] rfl rfl) ?_
    show AW G mX5_addNumber (d + 1) 0 0 Q 65 [(0, .ref a), (1, .int k)] [] _ 0 0
    refine ax_aload_n dX5_addNumber_65 rfl ?_
    refine ax_dup dX5_addNumber_66 rfl ?_
    refine ax_wget 0 hn rfl dX5_addNumber_67 fkX5_44 rfl ?_
    refine ax_iconst (v := 1) dX5_addNumber_70 (by decide) ?_
    refine ax_iadd dX5_addNumber_71 ?_
    refine ax_wput (l' := [(a, .inr (5, [.int (V 0), .int (V 1), .int (V 2), .int ((V 3) + 1), .ref n, .ref p, .int (V 6), .int (V 7), .int (V 8), .int (if 0 ≤ (V 9) then (V 9) else k), .int ((V 10) + 1), .int (V 11), .int (if (V 10) = 0 then k else (if (V 12) ≤ k then (V 12) else k)), .int k, .int (if (V 10) = 0 then k else (V 14)), .int (if (V 10) = 0 then (V 15) else (if (V 15) = 0 then 0 else (if k ≤ (V 13) then 0 else 1)))])), (n, .inl (0, 3, .inl (upd fN (V 3).toNatClampNeg k))), (p, .inl (3, 3, .inr (.inr (.inr (.inr (va_up fR (V 3).toNatClampNeg none))))))]) 0 hn rfl dX5_addNumber_72 fpX5_44 rfl rfl (Nat.le_of_ble_eq_true rfl) rfl ?_
    refine ax_aload_n dX5_addNumber_75 rfl ?_
    refine ax_dup dX5_addNumber_76 rfl ?_
    refine ax_wget 0 hn rfl dX5_addNumber_77 fkX5_47 rfl ?_
    refine ax_iload_n dX5_addNumber_80 rfl ?_
    refine ax_iadd dX5_addNumber_81 ?_
    refine ax_wput (l' := [(a, .inr (5, [.int (V 0), .int (V 1), .int (V 2), .int ((V 3) + 1), .ref n, .ref p, .int (V 6), .int (V 7), .int (V 8), .int (if 0 ≤ (V 9) then (V 9) else k), .int ((V 10) + 1), .int ((V 11) + k), .int (if (V 10) = 0 then k else (if (V 12) ≤ k then (V 12) else k)), .int k, .int (if (V 10) = 0 then k else (V 14)), .int (if (V 10) = 0 then (V 15) else (if (V 15) = 0 then 0 else (if k ≤ (V 13) then 0 else 1)))])), (n, .inl (0, 3, .inl (upd fN (V 3).toNatClampNeg k))), (p, .inl (3, 3, .inr (.inr (.inr (.inr (va_up fR (V 3).toNatClampNeg none))))))]) 0 hn rfl dX5_addNumber_82 fpX5_47 rfl rfl (Nat.le_of_ble_eq_true rfl) rfl ?_
    exact ax_vret (st := []) dX5_addNumber_85 rfl (by rw [hQ]; refine ⟨?_, ?_⟩ <;> (try rfl))
  refine ax_if_ge (tgt := 58) dX5_addNumber_50 (by decide) (fun c1 => ?_) (fun c1 => ?_)
  · repeat rw [if_pos c1] at J58
    first | exact J58 | contradiction
  · refine ax_aload_n dX5_addNumber_53 rfl ?_
    refine ax_iload_n dX5_addNumber_54 rfl ?_
    refine ax_wput (l' := [(a, .inr (5, [.int (V 0), .int (V 1), .int (V 2), .int ((V 3) + 1), .ref n, .ref p, .int (V 6), .int (V 7), .int (V 8), .int k, .int (V 10), .int (V 11), .int (V 12), .int (V 13), .int (V 14), .int (V 15)])), (n, .inl (0, 3, .inl (upd fN (V 3).toNatClampNeg k))), (p, .inl (3, 3, .inr (.inr (.inr (.inr (va_up fR (V 3).toNatClampNeg none))))))]) 0 hn rfl dX5_addNumber_55 fpX5_41 rfl rfl (Nat.le_of_ble_eq_true rfl) rfl ?_
    repeat rw [if_neg c1] at J58
    first | exact J58 | contradiction
set_option maxRecDepth 100000 in
set_option maxHeartbeats 4000000 in
theorem ctX5_addPart {G : ax_G} (d : Nat) (h : ax_H) (a n p : Nat) (V : Nat → Int32) (b n2 p2 : Nat) (W : Nat → Int32) (fN : Nat → Int32) (fR : Nat → Option Nat) (h0 : ¬ V 3 < 0) (h1 : V 3 < 3) (hn : ([a, n, p, b] : List Nat).Nodup) : AW G mX5_addPart (d + 1) 0 0 (fun r h1 => r = .inl none ∧ h1 = ax_w h [(a, .inr (5, [.int (V 0), .int (V 1), .int (V 2), .int (if (W 10) ≤ 0 then (V 3) + 1 else ((V 3) + 1)), .ref n, .ref p, .int (if (W 10) ≤ 0 then (V 6) + (W 6) else ((V 6) + (W 6))), .int (if (W 7) < (V 7) then (V 7) else (W 7) + 1), .int (if (V 8) = 0 then (W 7) else (if (V 8) ≤ (W 7) then (V 8) else (W 7))), .int (V 9), .int (if (W 10) ≤ 0 then (V 10) else (V 10) + (W 10)), .int (if (W 10) ≤ 0 then (V 11) else (V 11) + (W 11)), .int (if (W 10) ≤ 0 then (V 12) else (if (V 10) = 0 then (W 12) else (if (V 12) ≤ (W 12) then (V 12) else (W 12)))), .int (if (W 10) ≤ 0 then (V 13) else (W 13)), .int (if (W 10) ≤ 0 then (V 14) else (if (V 10) = 0 then (W 14) else (V 14))), .int (if (W 10) ≤ 0 then (V 15) else (if ((if (V 10) = 0 then (V 15) else (if (V 15) = 0 then 0 else (if (W 14) ≤ (V 13) then 0 else 1))) : Int32) = 0 then 0 else (if (W 15) = 0 then 0 else 1)))])), (n, .inl (0, 3, .inl (upd fN (V 3).toNatClampNeg 0))), (p, .inl (3, 3, .inr (.inr (.inr (.inr (va_up fR (V 3).toNatClampNeg (some b))))))), (b, .inr (5, [.int (W 0), .int (W 1), .int (W 2), .int (W 3), .ref n2, .ref p2, .int (W 6), .int (W 7), .int (W 8), .int (W 9), .int (W 10), .int (W 11), .int (W 12), .int (W 13), .int (W 14), .int (W 15)]))]) 0 [(0, .ref a), (1, .ref b)] [] (ax_w h [(a, .inr (5, [.int (V 0), .int (V 1), .int (V 2), .int (V 3), .ref n, .ref p, .int (V 6), .int (V 7), .int (V 8), .int (V 9), .int (V 10), .int (V 11), .int (V 12), .int (V 13), .int (V 14), .int (V 15)])), (n, .inl (0, 3, .inl fN)), (p, .inl (3, 3, .inr (.inr (.inr (.inr fR))))), (b, .inr (5, [.int (W 0), .int (W 1), .int (W 2), .int (W 3), .ref n2, .ref p2, .int (W 6), .int (W 7), .int (W 8), .int (W 9), .int (W 10), .int (W 11), .int (W 12), .int (W 13), .int (W 14), .int (W 15)]))]) 0 0 := by
  obtain ⟨Q, hQ⟩ : ∃ Q : ax_P, Q = (fun r h1 => r = .inl none ∧ h1 = ax_w h [(a, .inr (5, [.int (V 0), .int (V 1), .int (V 2), .int (if (W 10) ≤ 0 then (V 3) + 1 else ((V 3) + 1)), .ref n, .ref p, .int (if (W 10) ≤ 0 then (V 6) + (W 6) else ((V 6) + (W 6))), .int (if (W 7) < (V 7) then (V 7) else (W 7) + 1), .int (if (V 8) = 0 then (W 7) else (if (V 8) ≤ (W 7) then (V 8) else (W 7))), .int (V 9), .int (if (W 10) ≤ 0 then (V 10) else (V 10) + (W 10)), .int (if (W 10) ≤ 0 then (V 11) else (V 11) + (W 11)), .int (if (W 10) ≤ 0 then (V 12) else (if (V 10) = 0 then (W 12) else (if (V 12) ≤ (W 12) then (V 12) else (W 12)))), .int (if (W 10) ≤ 0 then (V 13) else (W 13)), .int (if (W 10) ≤ 0 then (V 14) else (if (V 10) = 0 then (W 14) else (V 14))), .int (if (W 10) ≤ 0 then (V 15) else (if ((if (V 10) = 0 then (V 15) else (if (V 15) = 0 then 0 else (if (W 14) ≤ (V 13) then 0 else 1))) : Int32) = 0 then 0 else (if (W 15) = 0 then 0 else 1)))])), (n, .inl (0, 3, .inl (upd fN (V 3).toNatClampNeg 0))), (p, .inl (3, 3, .inr (.inr (.inr (.inr (va_up fR (V 3).toNatClampNeg (some b))))))), (b, .inr (5, [.int (W 0), .int (W 1), .int (W 2), .int (W 3), .ref n2, .ref p2, .int (W 6), .int (W 7), .int (W 8), .int (W 9), .int (W 10), .int (W 11), .int (W 12), .int (W 13), .int (W 14), .int (W 15)]))]) := ⟨_, rfl⟩
  rw [← hQ]
  refine ax_aload_n dX5_addPart_0 rfl ?_
  refine ax_wget 0 hn rfl dX5_addPart_1 fkX5_29 rfl ?_
  refine ax_if_lt (tgt := 15) dX5_addPart_4 (by decide) (fun z => absurd z h0) (fun _ => ?_)
  refine ax_aload_n dX5_addPart_7 rfl ?_
  refine ax_wget 0 hn rfl dX5_addPart_8 fkX5_29 rfl ?_
  refine ax_iconst (v := 3) dX5_addPart_11 (by decide) ?_
  refine ax_icmp_lt (tgt := 16) dX5_addPart_12 (by decide) (fun _ => ?_) (fun z => absurd h1 z)
  refine ax_aload_n dX5_addPart_16 rfl ?_
  refine ax_wget 0 hn rfl dX5_addPart_17 fkX5_9 rfl ?_
  refine ax_aload_n dX5_addPart_20 rfl ?_
  refine ax_wget 0 hn rfl dX5_addPart_21 fkX5_29 rfl ?_
  refine ax_iconst (v := 0) dX5_addPart_24 (by decide) ?_
  refine ax_wiast (l' := [(a, .inr (5, [.int (V 0), .int (V 1), .int (V 2), .int (V 3), .ref n, .ref p, .int (V 6), .int (V 7), .int (V 8), .int (V 9), .int (V 10), .int (V 11), .int (V 12), .int (V 13), .int (V 14), .int (V 15)])), (n, .inl (0, 3, .inl (upd fN (V 3).toNatClampNeg 0))), (p, .inl (3, 3, .inr (.inr (.inr (.inr fR))))), (b, .inr (5, [.int (W 0), .int (W 1), .int (W 2), .int (W 3), .ref n2, .ref p2, .int (W 6), .int (W 7), .int (W 8), .int (W 9), .int (W 10), .int (W 11), .int (W 12), .int (W 13), .int (W 14), .int (W 15)]))]) 1 hn rfl dX5_addPart_25 (ax_in h0 (ax_nle h1) (by decide)) rfl ?_
  refine ax_aload_n dX5_addPart_26 rfl ?_
  refine ax_wget 0 hn rfl dX5_addPart_27 fkX5_15 rfl ?_
  refine ax_aload_n dX5_addPart_30 rfl ?_
  refine ax_wget 0 hn rfl dX5_addPart_31 fkX5_29 rfl ?_
  refine ax_aload_n dX5_addPart_34 rfl ?_
  refine ax_waast3 (l' := [(a, .inr (5, [.int (V 0), .int (V 1), .int (V 2), .int (V 3), .ref n, .ref p, .int (V 6), .int (V 7), .int (V 8), .int (V 9), .int (V 10), .int (V 11), .int (V 12), .int (V 13), .int (V 14), .int (V 15)])), (n, .inl (0, 3, .inl (upd fN (V 3).toNatClampNeg 0))), (p, .inl (3, 3, .inr (.inr (.inr (.inr (va_up fR (V 3).toNatClampNeg (some b))))))), (b, .inr (5, [.int (W 0), .int (W 1), .int (W 2), .int (W 3), .ref n2, .ref p2, .int (W 6), .int (W 7), .int (W 8), .int (W 9), .int (W 10), .int (W 11), .int (W 12), .int (W 13), .int (W 14), .int (W 15)]))]) 2 3 hn rfl rfl dX5_addPart_35 (ax_in h0 (ax_nle h1) (by decide)) rfl ?_
  refine ax_aload_n dX5_addPart_36 rfl ?_
  refine ax_dup dX5_addPart_37 rfl ?_
  refine ax_wget 0 hn rfl dX5_addPart_38 fkX5_29 rfl ?_
  refine ax_iconst (v := 1) dX5_addPart_41 (by decide) ?_
  refine ax_iadd dX5_addPart_42 ?_
  refine ax_wput (l' := [(a, .inr (5, [.int (V 0), .int (V 1), .int (V 2), .int ((V 3) + 1), .ref n, .ref p, .int (V 6), .int (V 7), .int (V 8), .int (V 9), .int (V 10), .int (V 11), .int (V 12), .int (V 13), .int (V 14), .int (V 15)])), (n, .inl (0, 3, .inl (upd fN (V 3).toNatClampNeg 0))), (p, .inl (3, 3, .inr (.inr (.inr (.inr (va_up fR (V 3).toNatClampNeg (some b))))))), (b, .inr (5, [.int (W 0), .int (W 1), .int (W 2), .int (W 3), .ref n2, .ref p2, .int (W 6), .int (W 7), .int (W 8), .int (W 9), .int (W 10), .int (W 11), .int (W 12), .int (W 13), .int (W 14), .int (W 15)]))]) 0 hn rfl dX5_addPart_43 fpX5_29 rfl rfl (Nat.le_of_ble_eq_true rfl) rfl ?_
  refine ax_aload_n dX5_addPart_46 rfl ?_
  refine ax_dup dX5_addPart_47 rfl ?_
  refine ax_wget 0 hn rfl dX5_addPart_48 fkX5_32 rfl ?_
  refine ax_aload_n dX5_addPart_51 rfl ?_
  refine ax_wget 3 hn rfl dX5_addPart_52 fkX5_32 rfl ?_
  refine ax_iadd dX5_addPart_55 ?_
  refine ax_wput (l' := [(a, .inr (5, [.int (V 0), .int (V 1), .int (V 2), .int ((V 3) + 1), .ref n, .ref p, .int ((V 6) + (W 6)), .int (V 7), .int (V 8), .int (V 9), .int (V 10), .int (V 11), .int (V 12), .int (V 13), .int (V 14), .int (V 15)])), (n, .inl (0, 3, .inl (upd fN (V 3).toNatClampNeg 0))), (p, .inl (3, 3, .inr (.inr (.inr (.inr (va_up fR (V 3).toNatClampNeg (some b))))))), (b, .inr (5, [.int (W 0), .int (W 1), .int (W 2), .int (W 3), .ref n2, .ref p2, .int (W 6), .int (W 7), .int (W 8), .int (W 9), .int (W 10), .int (W 11), .int (W 12), .int (W 13), .int (W 14), .int (W 15)]))]) 0 hn rfl dX5_addPart_56 fpX5_32 rfl rfl (Nat.le_of_ble_eq_true rfl) rfl ?_
  refine ax_aload_n dX5_addPart_59 rfl ?_
  refine ax_aload_n dX5_addPart_60 rfl ?_
  refine ax_wget 3 hn rfl dX5_addPart_61 fkX5_35 rfl ?_
  refine ax_aload_n dX5_addPart_64 rfl ?_
  refine ax_wget 0 hn rfl dX5_addPart_65 fkX5_35 rfl ?_
  have J84 : AW G mX5_addPart (d + 1) 0 0 Q 84 [(0, .ref a), (1, .ref b)] [.int (if (W 7) < (V 7) then (V 7) else (W 7) + 1), .ref a] (ax_w h [(a, .inr (5, [.int (V 0), .int (V 1), .int (V 2), .int ((V 3) + 1), .ref n, .ref p, .int ((V 6) + (W 6)), .int (V 7), .int (V 8), .int (V 9), .int (V 10), .int (V 11), .int (V 12), .int (V 13), .int (V 14), .int (V 15)])), (n, .inl (0, 3, .inl (upd fN (V 3).toNatClampNeg 0))), (p, .inl (3, 3, .inr (.inr (.inr (.inr (va_up fR (V 3).toNatClampNeg (some b))))))), (b, .inr (5, [.int (W 0), .int (W 1), .int (W 2), .int (W 3), .ref n2, .ref p2, .int (W 6), .int (W 7), .int (W 8), .int (W 9), .int (W 10), .int (W 11), .int (W 12), .int (W 13), .int (W 14), .int (W 15)]))]) 0 0 := by
    refine ax_wput (l' := [(a, .inr (5, [.int (V 0), .int (V 1), .int (V 2), .int ((V 3) + 1), .ref n, .ref p, .int ((V 6) + (W 6)), .int (if (W 7) < (V 7) then (V 7) else (W 7) + 1), .int (V 8), .int (V 9), .int (V 10), .int (V 11), .int (V 12), .int (V 13), .int (V 14), .int (V 15)])), (n, .inl (0, 3, .inl (upd fN (V 3).toNatClampNeg 0))), (p, .inl (3, 3, .inr (.inr (.inr (.inr (va_up fR (V 3).toNatClampNeg (some b))))))), (b, .inr (5, [.int (W 0), .int (W 1), .int (W 2), .int (W 3), .ref n2, .ref p2, .int (W 6), .int (W 7), .int (W 8), .int (W 9), .int (W 10), .int (W 11), .int (W 12), .int (W 13), .int (W 14), .int (W 15)]))]) 0 hn rfl dX5_addPart_84 fpX5_35 rfl rfl (Nat.le_of_ble_eq_true rfl) rfl ?_
    refine ax_aload_n dX5_addPart_87 rfl ?_
    refine ax_aload_n dX5_addPart_88 rfl ?_
    refine ax_wget 0 hn rfl dX5_addPart_89 fkX5_38 rfl ?_
    have J117 : AW G mX5_addPart (d + 1) 0 0 Q 117 [(0, .ref a), (1, .ref b)] [.int (if (V 8) = 0 then (W 7) else (if (V 8) ≤ (W 7) then (V 8) else (W 7))), .ref a] (ax_w h [(a, .inr (5, [.int (V 0), .int (V 1), .int (V 2), .int ((V 3) + 1), .ref n, .ref p, .int ((V 6) + (W 6)), .int (if (W 7) < (V 7) then (V 7) else (W 7) + 1), .int (V 8), .int (V 9), .int (V 10), .int (V 11), .int (V 12), .int (V 13), .int (V 14), .int (V 15)])), (n, .inl (0, 3, .inl (upd fN (V 3).toNatClampNeg 0))), (p, .inl (3, 3, .inr (.inr (.inr (.inr (va_up fR (V 3).toNatClampNeg (some b))))))), (b, .inr (5, [.int (W 0), .int (W 1), .int (W 2), .int (W 3), .ref n2, .ref p2, .int (W 6), .int (W 7), .int (W 8), .int (W 9), .int (W 10), .int (W 11), .int (W 12), .int (W 13), .int (W 14), .int (W 15)]))]) 0 0 := by
      refine ax_wput (l' := [(a, .inr (5, [.int (V 0), .int (V 1), .int (V 2), .int ((V 3) + 1), .ref n, .ref p, .int ((V 6) + (W 6)), .int (if (W 7) < (V 7) then (V 7) else (W 7) + 1), .int (if (V 8) = 0 then (W 7) else (if (V 8) ≤ (W 7) then (V 8) else (W 7))), .int (V 9), .int (V 10), .int (V 11), .int (V 12), .int (V 13), .int (V 14), .int (V 15)])), (n, .inl (0, 3, .inl (upd fN (V 3).toNatClampNeg 0))), (p, .inl (3, 3, .inr (.inr (.inr (.inr (va_up fR (V 3).toNatClampNeg (some b))))))), (b, .inr (5, [.int (W 0), .int (W 1), .int (W 2), .int (W 3), .ref n2, .ref p2, .int (W 6), .int (W 7), .int (W 8), .int (W 9), .int (W 10), .int (W 11), .int (W 12), .int (W 13), .int (W 14), .int (W 15)]))]) 0 hn rfl dX5_addPart_117 fpX5_38 rfl rfl (Nat.le_of_ble_eq_true rfl) rfl ?_
      refine ax_aload_n dX5_addPart_120 rfl ?_
      refine ax_wget 3 hn rfl dX5_addPart_121 fkX5_44 rfl ?_
      have J192 : AW G mX5_addPart (d + 1) 0 0 Q 192 [(0, .ref a), (1, .ref b)] [] (ax_w h [(a, .inr (5, [.int (V 0), .int (V 1), .int (V 2), .int (if (W 10) ≤ 0 then (V 3) + 1 else ((V 3) + 1)), .ref n, .ref p, .int (if (W 10) ≤ 0 then (V 6) + (W 6) else ((V 6) + (W 6))), .int (if (W 7) < (V 7) then (V 7) else (W 7) + 1), .int (if (V 8) = 0 then (W 7) else (if (V 8) ≤ (W 7) then (V 8) else (W 7))), .int (V 9), .int (if (W 10) ≤ 0 then (V 10) else (V 10) + (W 10)), .int (if (W 10) ≤ 0 then (V 11) else (V 11) + (W 11)), .int (if (W 10) ≤ 0 then (V 12) else (if (V 10) = 0 then (W 12) else (if (V 12) ≤ (W 12) then (V 12) else (W 12)))), .int (if (W 10) ≤ 0 then (V 13) else (W 13)), .int (if (W 10) ≤ 0 then (V 14) else (if (V 10) = 0 then (W 14) else (V 14))), .int (if (W 10) ≤ 0 then (V 15) else (if ((if (V 10) = 0 then (V 15) else (if (V 15) = 0 then 0 else (if (W 14) ≤ (V 13) then 0 else 1))) : Int32) = 0 then 0 else (if (W 15) = 0 then 0 else 1)))])), (n, .inl (0, 3, .inl (upd fN (V 3).toNatClampNeg 0))), (p, .inl (3, 3, .inr (.inr (.inr (.inr (va_up fR (V 3).toNatClampNeg (some b))))))), (b, .inr (5, [.int (W 0), .int (W 1), .int (W 2), .int (W 3), .ref n2, .ref p2, .int (W 6), .int (W 7), .int (W 8), .int (W 9), .int (W 10), .int (W 11), .int (W 12), .int (W 13), .int (W 14), .int (W 15)]))]) 0 0 := by
        exact ax_vret (st := []) dX5_addPart_192 rfl (by rw [hQ]; refine ⟨?_, ?_⟩ <;> (try rfl))
      refine ax_if_le (tgt := 192) dX5_addPart_124 (by decide) (fun c4 => ?_) (fun c4 => ?_)
      · repeat rw [if_pos c4] at J192
        first | exact J192 | contradiction
      · refine ax_aload_n dX5_addPart_127 rfl ?_
        refine ax_aload_n dX5_addPart_128 rfl ?_
        refine ax_wget 3 hn rfl dX5_addPart_129 fkX5_53 rfl ?_
        refine ax_aload_n dX5_addPart_132 rfl ?_
        refine ax_wget 3 hn rfl dX5_addPart_133 fkX5_56 rfl ?_
        refine ax_aload_n dX5_addPart_136 rfl ?_
        refine ax_wget 3 hn rfl dX5_addPart_137 fkX5_50 rfl ?_
        refine ax_callV (b := a) (av := [.int (W 14), .int (W 13), .int (W 12)]) (rest := []) (mc' := 0) (ms' := 0) dX5_addPart_140 rfl lkX5_63 (ax_w_get hn (i := 0) rfl) rfl (Nat.le_of_ble_eq_true rfl) (Nat.le_of_ble_eq_true rfl) (Nat.le_refl 0) (Nat.le_refl 0) (ax_eqh (ax_w_sub (l := [(a, .inr (5, [.int (V 0), .int (V 1), .int (V 2), .int ((V 3) + 1), .ref n, .ref p, .int ((V 6) + (W 6)), .int (if (W 7) < (V 7) then (V 7) else (W 7) + 1), .int (if (V 8) = 0 then (W 7) else (if (V 8) ≤ (W 7) then (V 8) else (W 7))), .int (V 9), .int (V 10), .int (V 11), .int (V 12), .int (V 13), .int (V 14), .int (V 15)])), (n, .inl (0, 3, .inl (upd fN (V 3).toNatClampNeg 0))), (p, .inl (3, 3, .inr (.inr (.inr (.inr (va_up fR (V 3).toNatClampNeg (some b))))))), (b, .inr (5, [.int (W 0), .int (W 1), .int (W 2), .int (W 3), .ref n2, .ref p2, .int (W 6), .int (W 7), .int (W 8), .int (W 9), .int (W 10), .int (W 11), .int (W 12), .int (W 13), .int (W 14), .int (W 15)]))]) (lc := [(a, .inr (5, [.int (V 0), .int (V 1), .int (V 2), .int ((V 3) + 1), .ref n, .ref p, .int ((V 6) + (W 6)), .int (if (W 7) < (V 7) then (V 7) else (W 7) + 1), .int (if (V 8) = 0 then (W 7) else (if (V 8) ≤ (W 7) then (V 8) else (W 7))), .int (V 9), .int (V 10), .int (V 11), .int (V 12), .int (V 13), .int (V 14), .int (V 15)]))]) hn [0] rfl).symm (ctX5_joinInts _ _ a n p (fun k9 => if k9 = 0 then (V 0) else if k9 = 1 then (V 1) else if k9 = 2 then (V 2) else if k9 = 3 then ((V 3) + 1) else if k9 = 6 then ((V 6) + (W 6)) else if k9 = 7 then (if (W 7) < (V 7) then (V 7) else (W 7) + 1) else if k9 = 8 then (if (V 8) = 0 then (W 7) else (if (V 8) ≤ (W 7) then (V 8) else (W 7))) else if k9 = 9 then (V 9) else if k9 = 10 then (V 10) else if k9 = 11 then (V 11) else if k9 = 12 then (V 12) else if k9 = 13 then (V 13) else if k9 = 14 then (V 14) else if k9 = 15 then (V 15) else 0) (W 14) (W 13) (W 12) (ax_nd [0] hn rfl (by decide)))) (fun E9 h9 q9 => by cases q9.1) (fun v9 h9 q9 => ?_)
        obtain ⟨e9, rfl⟩ := q9
        cases e9
        refine ax_eqh (ax_w_ov (l := [(a, .inr (5, [.int (V 0), .int (V 1), .int (V 2), .int ((V 3) + 1), .ref n, .ref p, .int ((V 6) + (W 6)), .int (if (W 7) < (V 7) then (V 7) else (W 7) + 1), .int (if (V 8) = 0 then (W 7) else (if (V 8) ≤ (W 7) then (V 8) else (W 7))), .int (V 9), .int (V 10), .int (V 11), .int (V 12), .int (V 13), .int (V 14), .int (V 15)])), (n, .inl (0, 3, .inl (upd fN (V 3).toNatClampNeg 0))), (p, .inl (3, 3, .inr (.inr (.inr (.inr (va_up fR (V 3).toNatClampNeg (some b))))))), (b, .inr (5, [.int (W 0), .int (W 1), .int (W 2), .int (W 3), .ref n2, .ref p2, .int (W 6), .int (W 7), .int (W 8), .int (W 9), .int (W 10), .int (W 11), .int (W 12), .int (W 13), .int (W 14), .int (W 15)]))]) (lc := [(a, .inr (5, [.int (V 0), .int (V 1), .int (V 2), .int ((V 3) + 1), .ref n, .ref p, .int ((V 6) + (W 6)), .int (if (W 7) < (V 7) then (V 7) else (W 7) + 1), .int (if (V 8) = 0 then (W 7) else (if (V 8) ≤ (W 7) then (V 8) else (W 7))), .int (V 9), .int (V 10), .int (V 11), .int (if (V 10) = 0 then (W 12) else (if (V 12) ≤ (W 12) then (V 12) else (W 12))), .int (W 13), .int (if (V 10) = 0 then (W 14) else (V 14)), .int (if (V 10) = 0 then (V 15) else (if (V 15) = 0 then 0 else (if (W 14) ≤ (V 13) then 0 else 1)))]))]) (l' := [(a, .inr (5, [.int (V 0), .int (V 1), .int (V 2), .int ((V 3) + 1), .ref n, .ref p, .int ((V 6) + (W 6)), .int (if (W 7) < (V 7) then (V 7) else (W 7) + 1), .int (if (V 8) = 0 then (W 7) else (if (V 8) ≤ (W 7) then (V 8) else (W 7))), .int (V 9), .int (V 10), .int (V 11), .int (if (V 10) = 0 then (W 12) else (if (V 12) ≤ (W 12) then (V 12) else (W 12))), .int (W 13), .int (if (V 10) = 0 then (W 14) else (V 14)), .int (if (V 10) = 0 then (V 15) else (if (V 15) = 0 then 0 else (if (W 14) ≤ (V 13) then 0 else 1)))])), (n, .inl (0, 3, .inl (upd fN (V 3).toNatClampNeg 0))), (p, .inl (3, 3, .inr (.inr (.inr (.inr (va_up fR (V 3).toNatClampNeg (some b))))))), (b, .inr (5, [.int (W 0), .int (W 1), .int (W 2), .int (W 3), .ref n2, .ref p2, .int (W 6), .int (W 7), .int (W 8), .int (W 9), .int (W 10), .int (W 11), .int (W 12), .int (W 13), .int (W 14), .int (W 15)]))]) hn [0] rfl rfl) ?_
        show AW G mX5_addPart (d + 1) 0 0 Q 143 [(0, .ref a), (1, .ref b)] [] _ 0 0
        refine ax_aload_n dX5_addPart_143 rfl ?_
        refine ax_aload_n dX5_addPart_144 rfl ?_
        refine ax_wget 0 hn rfl dX5_addPart_145 fkX5_59 rfl ?_
        have J163 : AW G mX5_addPart (d + 1) 0 0 Q 163 [(0, .ref a), (1, .ref b)] [.int (if ((if (V 10) = 0 then (V 15) else (if (V 15) = 0 then 0 else (if (W 14) ≤ (V 13) then 0 else 1))) : Int32) = 0 then 0 else (if (W 15) = 0 then 0 else 1)), .ref a] (ax_w h [(a, .inr (5, [.int (V 0), .int (V 1), .int (V 2), .int ((V 3) + 1), .ref n, .ref p, .int ((V 6) + (W 6)), .int (if (W 7) < (V 7) then (V 7) else (W 7) + 1), .int (if (V 8) = 0 then (W 7) else (if (V 8) ≤ (W 7) then (V 8) else (W 7))), .int (V 9), .int (V 10), .int (V 11), .int (if (V 10) = 0 then (W 12) else (if (V 12) ≤ (W 12) then (V 12) else (W 12))), .int (W 13), .int (if (V 10) = 0 then (W 14) else (V 14)), .int (if (V 10) = 0 then (V 15) else (if (V 15) = 0 then 0 else (if (W 14) ≤ (V 13) then 0 else 1)))])), (n, .inl (0, 3, .inl (upd fN (V 3).toNatClampNeg 0))), (p, .inl (3, 3, .inr (.inr (.inr (.inr (va_up fR (V 3).toNatClampNeg (some b))))))), (b, .inr (5, [.int (W 0), .int (W 1), .int (W 2), .int (W 3), .ref n2, .ref p2, .int (W 6), .int (W 7), .int (W 8), .int (W 9), .int (W 10), .int (W 11), .int (W 12), .int (W 13), .int (W 14), .int (W 15)]))]) 0 0 := by
          refine ax_wput (l' := [(a, .inr (5, [.int (V 0), .int (V 1), .int (V 2), .int ((V 3) + 1), .ref n, .ref p, .int ((V 6) + (W 6)), .int (if (W 7) < (V 7) then (V 7) else (W 7) + 1), .int (if (V 8) = 0 then (W 7) else (if (V 8) ≤ (W 7) then (V 8) else (W 7))), .int (V 9), .int (V 10), .int (V 11), .int (if (V 10) = 0 then (W 12) else (if (V 12) ≤ (W 12) then (V 12) else (W 12))), .int (W 13), .int (if (V 10) = 0 then (W 14) else (V 14)), .int (if ((if (V 10) = 0 then (V 15) else (if (V 15) = 0 then 0 else (if (W 14) ≤ (V 13) then 0 else 1))) : Int32) = 0 then 0 else (if (W 15) = 0 then 0 else 1))])), (n, .inl (0, 3, .inl (upd fN (V 3).toNatClampNeg 0))), (p, .inl (3, 3, .inr (.inr (.inr (.inr (va_up fR (V 3).toNatClampNeg (some b))))))), (b, .inr (5, [.int (W 0), .int (W 1), .int (W 2), .int (W 3), .ref n2, .ref p2, .int (W 6), .int (W 7), .int (W 8), .int (W 9), .int (W 10), .int (W 11), .int (W 12), .int (W 13), .int (W 14), .int (W 15)]))]) 0 hn rfl dX5_addPart_163 fpX5_59 (by repeat (first | rfl | split)) (by repeat (first | rfl | split)) (Nat.le_of_ble_eq_true rfl) rfl ?_
          refine ax_aload_n dX5_addPart_166 rfl ?_
          refine ax_dup dX5_addPart_167 rfl ?_
          refine ax_wget 0 hn rfl dX5_addPart_168 fkX5_44 rfl ?_
          refine ax_aload_n dX5_addPart_171 rfl ?_
          refine ax_wget 3 hn rfl dX5_addPart_172 fkX5_44 rfl ?_
          refine ax_iadd dX5_addPart_175 ?_
          refine ax_wput (l' := [(a, .inr (5, [.int (V 0), .int (V 1), .int (V 2), .int ((V 3) + 1), .ref n, .ref p, .int ((V 6) + (W 6)), .int (if (W 7) < (V 7) then (V 7) else (W 7) + 1), .int (if (V 8) = 0 then (W 7) else (if (V 8) ≤ (W 7) then (V 8) else (W 7))), .int (V 9), .int ((V 10) + (W 10)), .int (V 11), .int (if (V 10) = 0 then (W 12) else (if (V 12) ≤ (W 12) then (V 12) else (W 12))), .int (W 13), .int (if (V 10) = 0 then (W 14) else (V 14)), .int (if ((if (V 10) = 0 then (V 15) else (if (V 15) = 0 then 0 else (if (W 14) ≤ (V 13) then 0 else 1))) : Int32) = 0 then 0 else (if (W 15) = 0 then 0 else 1))])), (n, .inl (0, 3, .inl (upd fN (V 3).toNatClampNeg 0))), (p, .inl (3, 3, .inr (.inr (.inr (.inr (va_up fR (V 3).toNatClampNeg (some b))))))), (b, .inr (5, [.int (W 0), .int (W 1), .int (W 2), .int (W 3), .ref n2, .ref p2, .int (W 6), .int (W 7), .int (W 8), .int (W 9), .int (W 10), .int (W 11), .int (W 12), .int (W 13), .int (W 14), .int (W 15)]))]) 0 hn rfl dX5_addPart_176 fpX5_44 rfl rfl (Nat.le_of_ble_eq_true rfl) rfl ?_
          refine ax_aload_n dX5_addPart_179 rfl ?_
          refine ax_dup dX5_addPart_180 rfl ?_
          refine ax_wget 0 hn rfl dX5_addPart_181 fkX5_47 rfl ?_
          refine ax_aload_n dX5_addPart_184 rfl ?_
          refine ax_wget 3 hn rfl dX5_addPart_185 fkX5_47 rfl ?_
          refine ax_iadd dX5_addPart_188 ?_
          refine ax_wput (l' := [(a, .inr (5, [.int (V 0), .int (V 1), .int (V 2), .int ((V 3) + 1), .ref n, .ref p, .int ((V 6) + (W 6)), .int (if (W 7) < (V 7) then (V 7) else (W 7) + 1), .int (if (V 8) = 0 then (W 7) else (if (V 8) ≤ (W 7) then (V 8) else (W 7))), .int (V 9), .int ((V 10) + (W 10)), .int ((V 11) + (W 11)), .int (if (V 10) = 0 then (W 12) else (if (V 12) ≤ (W 12) then (V 12) else (W 12))), .int (W 13), .int (if (V 10) = 0 then (W 14) else (V 14)), .int (if ((if (V 10) = 0 then (V 15) else (if (V 15) = 0 then 0 else (if (W 14) ≤ (V 13) then 0 else 1))) : Int32) = 0 then 0 else (if (W 15) = 0 then 0 else 1))])), (n, .inl (0, 3, .inl (upd fN (V 3).toNatClampNeg 0))), (p, .inl (3, 3, .inr (.inr (.inr (.inr (va_up fR (V 3).toNatClampNeg (some b))))))), (b, .inr (5, [.int (W 0), .int (W 1), .int (W 2), .int (W 3), .ref n2, .ref p2, .int (W 6), .int (W 7), .int (W 8), .int (W 9), .int (W 10), .int (W 11), .int (W 12), .int (W 13), .int (W 14), .int (W 15)]))]) 0 hn rfl dX5_addPart_189 fpX5_47 rfl rfl (Nat.le_of_ble_eq_true rfl) rfl ?_
          repeat rw [if_neg c4] at J192
          first | exact J192 | contradiction
        refine ax_if_eq (tgt := 162) dX5_addPart_148 (by decide) (fun c5 => ?_) (fun c5 => ?_)
        · refine ax_iconst (v := 0) dX5_addPart_162 (by decide) ?_
          repeat rw [if_pos c5] at J163
          first | exact J163 | contradiction
        · refine ax_aload_n dX5_addPart_151 rfl ?_
          refine ax_wget 3 hn rfl dX5_addPart_152 fkX5_59 rfl ?_
          refine ax_if_eq (tgt := 162) dX5_addPart_155 (by decide) (fun c6 => ?_) (fun c6 => ?_)
          · refine ax_iconst (v := 0) dX5_addPart_162 (by decide) ?_
            repeat rw [if_neg c5] at J163
            repeat rw [if_pos c6] at J163
            first | exact J163 | contradiction
          · refine ax_iconst (v := 1) dX5_addPart_158 (by decide) ?_
            refine ax_goto (tgt := 163) dX5_addPart_159 (by decide) ?_
            repeat rw [if_neg c5] at J163
            repeat rw [if_neg c6] at J163
            first | exact J163 | contradiction
    refine ax_if_eq (tgt := 106) dX5_addPart_92 (by decide) (fun c2 => ?_) (fun c2 => ?_)
    · refine ax_aload_n dX5_addPart_106 rfl ?_
      refine ax_wget 3 hn rfl dX5_addPart_107 fkX5_35 rfl ?_
      refine ax_goto (tgt := 117) dX5_addPart_110 (by decide) ?_
      repeat rw [if_pos c2] at J117
      first | exact J117 | contradiction
    · refine ax_aload_n dX5_addPart_95 rfl ?_
      refine ax_wget 3 hn rfl dX5_addPart_96 fkX5_35 rfl ?_
      refine ax_aload_n dX5_addPart_99 rfl ?_
      refine ax_wget 0 hn rfl dX5_addPart_100 fkX5_38 rfl ?_
      refine ax_icmp_ge (tgt := 113) dX5_addPart_103 (by decide) (fun c3 => ?_) (fun c3 => ?_)
      · refine ax_aload_n dX5_addPart_113 rfl ?_
        refine ax_wget 0 hn rfl dX5_addPart_114 fkX5_38 rfl ?_
        repeat rw [if_neg c2] at J117
        repeat rw [if_pos c3] at J117
        first | exact J117 | contradiction
      · refine ax_aload_n dX5_addPart_106 rfl ?_
        refine ax_wget 3 hn rfl dX5_addPart_107 fkX5_35 rfl ?_
        refine ax_goto (tgt := 117) dX5_addPart_110 (by decide) ?_
        repeat rw [if_neg c2] at J117
        repeat rw [if_neg c3] at J117
        first | exact J117 | contradiction
  refine ax_icmp_lt (tgt := 80) dX5_addPart_68 (by decide) (fun c1 => ?_) (fun c1 => ?_)
  · refine ax_aload_n dX5_addPart_80 rfl ?_
    refine ax_wget 0 hn rfl dX5_addPart_81 fkX5_35 rfl ?_
    repeat rw [if_pos c1] at J84
    first | exact J84 | contradiction
  · refine ax_aload_n dX5_addPart_71 rfl ?_
    refine ax_wget 3 hn rfl dX5_addPart_72 fkX5_35 rfl ?_
    refine ax_iconst (v := 1) dX5_addPart_75 (by decide) ?_
    refine ax_iadd dX5_addPart_76 ?_
    refine ax_goto (tgt := 84) dX5_addPart_77 (by decide) ?_
    repeat rw [if_neg c1] at J84
    first | exact J84 | contradiction
set_option maxRecDepth 100000 in
set_option maxHeartbeats 4000000 in
theorem ctX5_clashesWith {G : ax_G} (d : Nat) (h : ax_H) (a n p : Nat) (V : Nat → Int32) (b n2 p2 : Nat) (W : Nat → Int32) (k : Int32) (hn : ([a, b] : List Nat).Nodup) : AW G mX5_clashesWith d 0 0 (fun r h1 => r = .inl (some (.int (if k = 1 then (if (V 10) ≤ 0 then 0 else (if (W 10) ≤ 0 then 0 else (if (V 13) < (W 14) then 0 else 1))) else (if k = 2 then 0 else (if k = 3 then (if (V 8) ≤ 0 then 0 else (if (W 7) = (V 8) then 0 else 1)) else (if k = 4 then (if (V 8) ≤ 0 then 0 else (if ((if 0 ≤ ((W 7) - (V 8)) then ((W 7) - (V 8)) else 0 - ((W 7) - (V 8))) : Int32) ≤ (1 : Int32) then 0 else 1)) else 0)))))) ∧ h1 = ax_w h [(a, .inr (5, [.int (V 0), .int (V 1), .int (V 2), .int (V 3), .ref n, .ref p, .int (V 6), .int (V 7), .int (V 8), .int (V 9), .int (V 10), .int (V 11), .int (V 12), .int (V 13), .int (V 14), .int (V 15)])), (b, .inr (5, [.int (W 0), .int (W 1), .int (W 2), .int (W 3), .ref n2, .ref p2, .int (W 6), .int (W 7), .int (W 8), .int (W 9), .int (W 10), .int (W 11), .int (W 12), .int (W 13), .int (W 14), .int (W 15)]))]) 0 [(0, .ref a), (1, .ref b), (2, .int k)] [] (ax_w h [(a, .inr (5, [.int (V 0), .int (V 1), .int (V 2), .int (V 3), .ref n, .ref p, .int (V 6), .int (V 7), .int (V 8), .int (V 9), .int (V 10), .int (V 11), .int (V 12), .int (V 13), .int (V 14), .int (V 15)])), (b, .inr (5, [.int (W 0), .int (W 1), .int (W 2), .int (W 3), .ref n2, .ref p2, .int (W 6), .int (W 7), .int (W 8), .int (W 9), .int (W 10), .int (W 11), .int (W 12), .int (W 13), .int (W 14), .int (W 15)]))]) 0 0 := by
  obtain ⟨Q, hQ⟩ : ∃ Q : ax_P, Q = (fun r h1 => r = .inl (some (.int (if k = 1 then (if (V 10) ≤ 0 then 0 else (if (W 10) ≤ 0 then 0 else (if (V 13) < (W 14) then 0 else 1))) else (if k = 2 then 0 else (if k = 3 then (if (V 8) ≤ 0 then 0 else (if (W 7) = (V 8) then 0 else 1)) else (if k = 4 then (if (V 8) ≤ 0 then 0 else (if ((if 0 ≤ ((W 7) - (V 8)) then ((W 7) - (V 8)) else 0 - ((W 7) - (V 8))) : Int32) ≤ (1 : Int32) then 0 else 1)) else 0)))))) ∧ h1 = ax_w h [(a, .inr (5, [.int (V 0), .int (V 1), .int (V 2), .int (V 3), .ref n, .ref p, .int (V 6), .int (V 7), .int (V 8), .int (V 9), .int (V 10), .int (V 11), .int (V 12), .int (V 13), .int (V 14), .int (V 15)])), (b, .inr (5, [.int (W 0), .int (W 1), .int (W 2), .int (W 3), .ref n2, .ref p2, .int (W 6), .int (W 7), .int (W 8), .int (W 9), .int (W 10), .int (W 11), .int (W 12), .int (W 13), .int (W 14), .int (W 15)]))]) := ⟨_, rfl⟩
  rw [← hQ]
  refine ax_iload_n dX5_clashesWith_0 rfl ?_
  by_cases c8 : k = 1
  · subst c8
    refine ax_tabIn (tgt := 32) dX5_clashesWith_1 (by decide) (by decide) rfl (by decide) ?_
    refine ax_aload_n dX5_clashesWith_32 rfl ?_
    refine ax_wget 0 hn rfl dX5_clashesWith_33 fkX5_44 rfl ?_
    have J62 : AW G mX5_clashesWith d 0 0 Q 62 [(0, .ref a), (1, .ref b), (2, .int 1)] [.int (if (V 10) ≤ 0 then 0 else (if (W 10) ≤ 0 then 0 else (if (V 13) < (W 14) then 0 else 1)))] (ax_w h [(a, .inr (5, [.int (V 0), .int (V 1), .int (V 2), .int (V 3), .ref n, .ref p, .int (V 6), .int (V 7), .int (V 8), .int (V 9), .int (V 10), .int (V 11), .int (V 12), .int (V 13), .int (V 14), .int (V 15)])), (b, .inr (5, [.int (W 0), .int (W 1), .int (W 2), .int (W 3), .ref n2, .ref p2, .int (W 6), .int (W 7), .int (W 8), .int (W 9), .int (W 10), .int (W 11), .int (W 12), .int (W 13), .int (W 14), .int (W 15)]))]) 0 0 := by
      exact ax_iret (st := []) dX5_clashesWith_62 rfl (by repeat (first | rfl | split)) (by rw [hQ]; refine ⟨?_, ?_⟩ <;> (try rfl))
    refine ax_if_le (tgt := 61) dX5_clashesWith_36 (by decide) (fun c1 => ?_) (fun c1 => ?_)
    · refine ax_iconst (v := 0) dX5_clashesWith_61 (by decide) ?_
      repeat rw [if_pos c1] at J62
      first | exact J62 | contradiction
    · refine ax_aload_n dX5_clashesWith_39 rfl ?_
      refine ax_wget 1 hn rfl dX5_clashesWith_40 fkX5_44 rfl ?_
      refine ax_if_le (tgt := 61) dX5_clashesWith_43 (by decide) (fun c2 => ?_) (fun c2 => ?_)
      · refine ax_iconst (v := 0) dX5_clashesWith_61 (by decide) ?_
        repeat rw [if_neg c1] at J62
        repeat rw [if_pos c2] at J62
        first | exact J62 | contradiction
      · refine ax_aload_n dX5_clashesWith_46 rfl ?_
        refine ax_wget 0 hn rfl dX5_clashesWith_47 fkX5_56 rfl ?_
        refine ax_aload_n dX5_clashesWith_50 rfl ?_
        refine ax_wget 1 hn rfl dX5_clashesWith_51 fkX5_53 rfl ?_
        refine ax_icmp_lt (tgt := 61) dX5_clashesWith_54 (by decide) (fun c3 => ?_) (fun c3 => ?_)
        · refine ax_iconst (v := 0) dX5_clashesWith_61 (by decide) ?_
          repeat rw [if_neg c1] at J62
          repeat rw [if_neg c2] at J62
          repeat rw [if_pos c3] at J62
          first | exact J62 | contradiction
        · refine ax_iconst (v := 1) dX5_clashesWith_57 (by decide) ?_
          refine ax_goto (tgt := 62) dX5_clashesWith_58 (by decide) ?_
          repeat rw [if_neg c1] at J62
          repeat rw [if_neg c2] at J62
          repeat rw [if_neg c3] at J62
          first | exact J62 | contradiction
  · skip
    by_cases c9 : k = 2
    · subst c9
      refine ax_tabIn (tgt := 116) dX5_clashesWith_1 (by decide) (by decide) rfl (by decide) ?_
      refine ax_iconst (v := 0) dX5_clashesWith_116 (by decide) ?_
      exact ax_iret (st := []) dX5_clashesWith_117 rfl (by repeat (first | rfl | split)) (by rw [hQ]; refine ⟨?_, ?_⟩ <;> (repeat rw [if_neg c8]) <;> (try rfl))
    · skip
      by_cases c10 : k = 3
      · subst c10
        refine ax_tabIn (tgt := 63) dX5_clashesWith_1 (by decide) (by decide) rfl (by decide) ?_
        refine ax_aload_n dX5_clashesWith_63 rfl ?_
        refine ax_wget 0 hn rfl dX5_clashesWith_64 fkX5_38 rfl ?_
        have J86 : AW G mX5_clashesWith d 0 0 Q 86 [(0, .ref a), (1, .ref b), (2, .int 3)] [.int (if (V 8) ≤ 0 then 0 else (if (W 7) = (V 8) then 0 else 1))] (ax_w h [(a, .inr (5, [.int (V 0), .int (V 1), .int (V 2), .int (V 3), .ref n, .ref p, .int (V 6), .int (V 7), .int (V 8), .int (V 9), .int (V 10), .int (V 11), .int (V 12), .int (V 13), .int (V 14), .int (V 15)])), (b, .inr (5, [.int (W 0), .int (W 1), .int (W 2), .int (W 3), .ref n2, .ref p2, .int (W 6), .int (W 7), .int (W 8), .int (W 9), .int (W 10), .int (W 11), .int (W 12), .int (W 13), .int (W 14), .int (W 15)]))]) 0 0 := by
          exact ax_iret (st := []) dX5_clashesWith_86 rfl (by repeat (first | rfl | split)) (by rw [hQ]; refine ⟨?_, ?_⟩ <;> (repeat rw [if_neg c8]) <;> (repeat rw [if_neg c9]) <;> (try rfl))
        refine ax_if_le (tgt := 85) dX5_clashesWith_67 (by decide) (fun c4 => ?_) (fun c4 => ?_)
        · refine ax_iconst (v := 0) dX5_clashesWith_85 (by decide) ?_
          repeat rw [if_pos c4] at J86
          first | exact J86 | contradiction
        · refine ax_aload_n dX5_clashesWith_70 rfl ?_
          refine ax_wget 1 hn rfl dX5_clashesWith_71 fkX5_35 rfl ?_
          refine ax_aload_n dX5_clashesWith_74 rfl ?_
          refine ax_wget 0 hn rfl dX5_clashesWith_75 fkX5_38 rfl ?_
          refine ax_icmp_eq (tgt := 85) dX5_clashesWith_78 (by decide) (fun c5 => ?_) (fun c5 => ?_)
          · refine ax_iconst (v := 0) dX5_clashesWith_85 (by decide) ?_
            repeat rw [if_neg c4] at J86
            repeat rw [if_pos c5] at J86
            first | exact J86 | contradiction
          · refine ax_iconst (v := 1) dX5_clashesWith_81 (by decide) ?_
            refine ax_goto (tgt := 86) dX5_clashesWith_82 (by decide) ?_
            repeat rw [if_neg c4] at J86
            repeat rw [if_neg c5] at J86
            first | exact J86 | contradiction
      · skip
        by_cases c11 : k = 4
        · subst c11
          refine ax_tabIn (tgt := 87) dX5_clashesWith_1 (by decide) (by decide) rfl (by decide) ?_
          refine ax_aload_n dX5_clashesWith_87 rfl ?_
          refine ax_wget 0 hn rfl dX5_clashesWith_88 fkX5_38 rfl ?_
          have J115 : AW G mX5_clashesWith d 0 0 Q 115 [(0, .ref a), (1, .ref b), (2, .int 4)] [.int (if (V 8) ≤ 0 then 0 else (if ((if 0 ≤ ((W 7) - (V 8)) then ((W 7) - (V 8)) else 0 - ((W 7) - (V 8))) : Int32) ≤ (1 : Int32) then 0 else 1))] (ax_w h [(a, .inr (5, [.int (V 0), .int (V 1), .int (V 2), .int (V 3), .ref n, .ref p, .int (V 6), .int (V 7), .int (V 8), .int (V 9), .int (V 10), .int (V 11), .int (V 12), .int (V 13), .int (V 14), .int (V 15)])), (b, .inr (5, [.int (W 0), .int (W 1), .int (W 2), .int (W 3), .ref n2, .ref p2, .int (W 6), .int (W 7), .int (W 8), .int (W 9), .int (W 10), .int (W 11), .int (W 12), .int (W 13), .int (W 14), .int (W 15)]))]) 0 0 := by
            exact ax_iret (st := []) dX5_clashesWith_115 rfl (by repeat (first | rfl | split)) (by rw [hQ]; refine ⟨?_, ?_⟩ <;> (repeat rw [if_neg c8]) <;> (repeat rw [if_neg c9]) <;> (repeat rw [if_neg c10]) <;> (try rfl))
          refine ax_if_le (tgt := 114) dX5_clashesWith_91 (by decide) (fun c6 => ?_) (fun c6 => ?_)
          · refine ax_iconst (v := 0) dX5_clashesWith_114 (by decide) ?_
            repeat rw [if_pos c6] at J115
            first | exact J115 | contradiction
          · refine ax_aload_n dX5_clashesWith_94 rfl ?_
            refine ax_wget 1 hn rfl dX5_clashesWith_95 fkX5_35 rfl ?_
            refine ax_aload_n dX5_clashesWith_98 rfl ?_
            refine ax_wget 0 hn rfl dX5_clashesWith_99 fkX5_38 rfl ?_
            refine ax_isub dX5_clashesWith_102 ?_
            refine ax_mabs dX5_clashesWith_103 mlX5_71 ax_mS_abs ax_iMath ax_mC_abs (Nat.le_of_ble_eq_true rfl) ?_
            refine ax_iconst (v := 1) dX5_clashesWith_106 (by decide) ?_
            refine ax_icmp_le (tgt := 114) dX5_clashesWith_107 (by decide) (fun c7 => ?_) (fun c7 => ?_)
            · refine ax_iconst (v := 0) dX5_clashesWith_114 (by decide) ?_
              repeat rw [if_neg c6] at J115
              repeat rw [if_pos c7] at J115
              first | exact J115 | contradiction
            · refine ax_iconst (v := 1) dX5_clashesWith_110 (by decide) ?_
              refine ax_goto (tgt := 115) dX5_clashesWith_111 (by decide) ?_
              repeat rw [if_neg c6] at J115
              repeat rw [if_neg c7] at J115
              first | exact J115 | contradiction
        · skip
          refine ax_tabOut (tgt := 116) dX5_clashesWith_1 (ax_out4 (lv_neT c8 (a := 1) (by decide)) (lv_neT c9 (a := 2) (by decide)) (lv_neT c10 (a := 3) (by decide)) (lv_neT c11 (a := 4) (by decide))) (by decide) ?_
          refine ax_iconst (v := 0) dX5_clashesWith_116 (by decide) ?_
          exact ax_iret (st := []) dX5_clashesWith_117 rfl (by repeat (first | rfl | split)) (by rw [hQ]; refine ⟨?_, ?_⟩ <;> (repeat rw [if_neg c8]) <;> (repeat rw [if_neg c9]) <;> (repeat rw [if_neg c10]) <;> (repeat rw [if_neg c11]) <;> (try rfl))
set_option maxRecDepth 100000 in
set_option maxHeartbeats 4000000 in
theorem ctX5_partAt {G : ax_G} (d : Nat) (h : ax_H) (a n p : Nat) (V : Nat → Int32) (k : Int32) (fR : Nat → Option Nat) (hn : ([a, p] : List Nat).Nodup) : AW G mX5_partAt d 0 0 (fun r h1 => r = .inl (some ((va_rf (if k < 0 then none else (if (V 3) ≤ k then none else (if (3 : Int32) ≤ k then none else (fR k.toNatClampNeg))))))) ∧ h1 = ax_w h [(a, .inr (5, [.int (V 0), .int (V 1), .int (V 2), .int (V 3), .ref n, .ref p, .int (V 6), .int (V 7), .int (V 8), .int (V 9), .int (V 10), .int (V 11), .int (V 12), .int (V 13), .int (V 14), .int (V 15)])), (p, .inl (3, 3, .inr (.inr (.inr (.inr fR)))))]) 0 [(0, .ref a), (1, .int k)] [] (ax_w h [(a, .inr (5, [.int (V 0), .int (V 1), .int (V 2), .int (V 3), .ref n, .ref p, .int (V 6), .int (V 7), .int (V 8), .int (V 9), .int (V 10), .int (V 11), .int (V 12), .int (V 13), .int (V 14), .int (V 15)])), (p, .inl (3, 3, .inr (.inr (.inr (.inr fR)))))]) 0 0 := by
  obtain ⟨Q, hQ⟩ : ∃ Q : ax_P, Q = (fun r h1 => r = .inl (some ((va_rf (if k < 0 then none else (if (V 3) ≤ k then none else (if (3 : Int32) ≤ k then none else (fR k.toNatClampNeg))))))) ∧ h1 = ax_w h [(a, .inr (5, [.int (V 0), .int (V 1), .int (V 2), .int (V 3), .ref n, .ref p, .int (V 6), .int (V 7), .int (V 8), .int (V 9), .int (V 10), .int (V 11), .int (V 12), .int (V 13), .int (V 14), .int (V 15)])), (p, .inl (3, 3, .inr (.inr (.inr (.inr fR)))))]) := ⟨_, rfl⟩
  rw [← hQ]
  refine ax_iload_n dX5_partAt_0 rfl ?_
  have J27 : AW G mX5_partAt d 0 0 Q 27 [(0, .ref a), (1, .int k)] [(va_rf (if k < 0 then none else (if (V 3) ≤ k then none else (if (3 : Int32) ≤ k then none else (fR k.toNatClampNeg)))))] (ax_w h [(a, .inr (5, [.int (V 0), .int (V 1), .int (V 2), .int (V 3), .ref n, .ref p, .int (V 6), .int (V 7), .int (V 8), .int (V 9), .int (V 10), .int (V 11), .int (V 12), .int (V 13), .int (V 14), .int (V 15)])), (p, .inl (3, 3, .inr (.inr (.inr (.inr fR)))))]) 0 0 := by
    exact ax_aret (st := []) dX5_partAt_27 rfl (Or.inl ⟨_, rfl⟩) (by first | exact Or.inl rfl | exact Or.inr ⟨_, rfl⟩ | exact ax_rfv _) (by rw [hQ]; refine ⟨?_, ?_⟩ <;> (try rfl))
  refine ax_if_lt (tgt := 26) dX5_partAt_1 (by decide) (fun c1 => ?_) (fun c1 => ?_)
  · refine ax_null dX5_partAt_26 ?_
    repeat rw [if_pos c1] at J27
    first | exact J27 | contradiction
  · refine ax_iload_n dX5_partAt_4 rfl ?_
    refine ax_aload_n dX5_partAt_5 rfl ?_
    refine ax_wget 0 hn rfl dX5_partAt_6 fkX5_29 rfl ?_
    refine ax_icmp_ge (tgt := 26) dX5_partAt_9 (by decide) (fun c2 => ?_) (fun c2 => ?_)
    · refine ax_null dX5_partAt_26 ?_
      repeat rw [if_neg c1] at J27
      repeat rw [if_pos c2] at J27
      first | exact J27 | contradiction
    · refine ax_iload_n dX5_partAt_12 rfl ?_
      refine ax_iconst (v := 3) dX5_partAt_13 (by decide) ?_
      refine ax_icmp_ge (tgt := 26) dX5_partAt_14 (by decide) (fun c3 => ?_) (fun c3 => ?_)
      · refine ax_null dX5_partAt_26 ?_
        repeat rw [if_neg c1] at J27
        repeat rw [if_neg c2] at J27
        repeat rw [if_pos c3] at J27
        first | exact J27 | contradiction
      · refine ax_aload_n dX5_partAt_17 rfl ?_
        refine ax_wget 0 hn rfl dX5_partAt_18 fkX5_15 rfl ?_
        refine ax_iload_n dX5_partAt_21 rfl ?_
        refine ax_waald3 1 hn rfl dX5_partAt_22 (ax_in c1 c3 (by decide)) ?_
        refine ax_goto (tgt := 27) dX5_partAt_23 (by decide) ?_
        repeat rw [if_neg c1] at J27
        repeat rw [if_neg c2] at J27
        repeat rw [if_neg c3] at J27
        first | exact J27 | contradiction
set_option maxRecDepth 100000 in
set_option maxHeartbeats 4000000 in
theorem ctX0_at {G : ax_G} (d : Nat) (h : ax_H) (a n : Nat) (kp k : Int32) (fN : Nat → Int32) (hn : ([a, n] : List Nat).Nodup) : AW G mX0_at d 0 0 (fun r h1 => r = .inl (some (.int (if k < 0 then (-1) else (if kp ≤ k then (-1) else (if (nI 32) ≤ k then (-1) else fN k.toNatClampNeg))))) ∧ h1 = ax_w h [(a, .inr (0, [.ref n, .int kp])), (n, .inl (0, 32, .inl fN))]) 0 [(0, .ref a), (1, .int k)] [] (ax_w h [(a, .inr (0, [.ref n, .int kp])), (n, .inl (0, 32, .inl fN))]) 0 0 := by
  obtain ⟨Q, hQ⟩ : ∃ Q : ax_P, Q = (fun r h1 => r = .inl (some (.int (if k < 0 then (-1) else (if kp ≤ k then (-1) else (if (nI 32) ≤ k then (-1) else fN k.toNatClampNeg))))) ∧ h1 = ax_w h [(a, .inr (0, [.ref n, .int kp])), (n, .inl (0, 32, .inl fN))]) := ⟨_, rfl⟩
  rw [← hQ]
  refine ax_iload_n dX0_at_0 rfl ?_
  have J31 : AW G mX0_at d 0 0 Q 31 [(0, .ref a), (1, .int k)] [.int (if k < 0 then (-1) else (if kp ≤ k then (-1) else (if (nI 32) ≤ k then (-1) else fN k.toNatClampNeg)))] (ax_w h [(a, .inr (0, [.ref n, .int kp])), (n, .inl (0, 32, .inl fN))]) 0 0 := by
    exact ax_iret (st := []) dX0_at_31 rfl (by repeat (first | rfl | split)) (by rw [hQ]; refine ⟨?_, ?_⟩ <;> (try rfl))
  refine ax_if_lt (tgt := 30) dX0_at_1 (by decide) (fun c1 => ?_) (fun c1 => ?_)
  · refine ax_iconst (v := (-1)) dX0_at_30 (by decide) ?_
    repeat rw [if_pos c1] at J31
    first | exact J31 | contradiction
  · refine ax_iload_n dX0_at_4 rfl ?_
    refine ax_aload_n dX0_at_5 rfl ?_
    refine ax_wget 0 hn rfl dX0_at_6 fkX0_15 rfl ?_
    refine ax_icmp_ge (tgt := 30) dX0_at_9 (by decide) (fun c2 => ?_) (fun c2 => ?_)
    · refine ax_iconst (v := (-1)) dX0_at_30 (by decide) ?_
      repeat rw [if_neg c1] at J31
      repeat rw [if_pos c2] at J31
      first | exact J31 | contradiction
    · refine ax_iload_n dX0_at_12 rfl ?_
      refine ax_aload_n dX0_at_13 rfl ?_
      refine ax_wget 0 hn rfl dX0_at_14 fkX0_9 rfl ?_
      refine ax_alen dX0_at_17 (ax_w_get hn (i := 1) rfl) (by decide) ?_
      refine ax_icmp_ge (tgt := 30) dX0_at_18 (by decide) (fun c3 => ?_) (fun c3 => ?_)
      · refine ax_iconst (v := (-1)) dX0_at_30 (by decide) ?_
        repeat rw [if_neg c1] at J31
        repeat rw [if_neg c2] at J31
        repeat rw [if_pos c3] at J31
        first | exact J31 | contradiction
      · refine ax_aload_n dX0_at_21 rfl ?_
        refine ax_wget 0 hn rfl dX0_at_22 fkX0_9 rfl ?_
        refine ax_iload_n dX0_at_25 rfl ?_
        refine ax_wiald 1 hn rfl dX0_at_26 (ax_in c1 c3 (by decide)) ?_
        refine ax_goto (tgt := 31) dX0_at_27 (by decide) ?_
        repeat rw [if_neg c1] at J31
        repeat rw [if_neg c2] at J31
        repeat rw [if_neg c3] at J31
        first | exact J31 | contradiction
set_option maxRecDepth 100000 in
set_option maxHeartbeats 4000000 in
theorem ctX0_append {G : ax_G} (d : Nat) (h : ax_H) (a n : Nat) (kp k : Int32) (fN : Nat → Int32) (h0 : ¬ kp < 0) (h1 : ¬ nI 32 ≤ kp) (hn : ([a, n] : List Nat).Nodup) : AW G mX0_append d 0 0 (fun r h1 => r = .inl none ∧ h1 = ax_w h [(a, .inr (0, [.ref n, .int (kp + 1)])), (n, .inl (0, 32, .inl (upd fN kp.toNatClampNeg k)))]) 0 [(0, .ref a), (1, .int k)] [] (ax_w h [(a, .inr (0, [.ref n, .int kp])), (n, .inl (0, 32, .inl fN))]) 0 0 := by
  obtain ⟨Q, hQ⟩ : ∃ Q : ax_P, Q = (fun r h1 => r = .inl none ∧ h1 = ax_w h [(a, .inr (0, [.ref n, .int (kp + 1)])), (n, .inl (0, 32, .inl (upd fN kp.toNatClampNeg k)))]) := ⟨_, rfl⟩
  rw [← hQ]
  refine ax_aload_n dX0_append_0 rfl ?_
  refine ax_wget 0 hn rfl dX0_append_1 fkX0_15 rfl ?_
  refine ax_if_lt (tgt := 39) dX0_append_4 (by decide) (fun z => absurd z h0) (fun _ => ?_)
  refine ax_aload_n dX0_append_7 rfl ?_
  refine ax_wget 0 hn rfl dX0_append_8 fkX0_15 rfl ?_
  refine ax_aload_n dX0_append_11 rfl ?_
  refine ax_wget 0 hn rfl dX0_append_12 fkX0_9 rfl ?_
  refine ax_alen dX0_append_15 (ax_w_get hn (i := 1) rfl) (by decide) ?_
  refine ax_icmp_ge (tgt := 39) dX0_append_16 (by decide) (fun z => absurd z h1) (fun _ => ?_)
  refine ax_aload_n dX0_append_19 rfl ?_
  refine ax_wget 0 hn rfl dX0_append_20 fkX0_9 rfl ?_
  refine ax_aload_n dX0_append_23 rfl ?_
  refine ax_wget 0 hn rfl dX0_append_24 fkX0_15 rfl ?_
  refine ax_iload_n dX0_append_27 rfl ?_
  refine ax_wiast (l' := [(a, .inr (0, [.ref n, .int kp])), (n, .inl (0, 32, .inl (upd fN kp.toNatClampNeg k)))]) 1 hn rfl dX0_append_28 (ax_in h0 h1 (by decide)) rfl ?_
  refine ax_aload_n dX0_append_29 rfl ?_
  refine ax_dup dX0_append_30 rfl ?_
  refine ax_wget 0 hn rfl dX0_append_31 fkX0_15 rfl ?_
  refine ax_iconst (v := 1) dX0_append_34 (by decide) ?_
  refine ax_iadd dX0_append_35 ?_
  refine ax_wput (l' := [(a, .inr (0, [.ref n, .int (kp + 1)])), (n, .inl (0, 32, .inl (upd fN kp.toNatClampNeg k)))]) 0 hn rfl dX0_append_36 fpX0_15 rfl rfl (Nat.le_of_ble_eq_true rfl) rfl ?_
  exact ax_vret (st := []) dX0_append_39 rfl (by rw [hQ]; refine ⟨?_, ?_⟩ <;> (try rfl))
set_option maxRecDepth 100000 in
set_option maxHeartbeats 4000000 in
theorem ctX3_upTo {G : ax_G} (d : Nat) (h : ax_H) (a g pl od kt en bg : Nat) (us ov rc fr : Int32) (t z : Int32) (fE : Nat → Int32) (hn : ([a, en] : List Nat).Nodup) : AW G mX3_upTo d 0 0 (fun r h1 => r = .inl (some (.int (if t < 0 then 0 else (if (4 : Int32) ≤ t then 0 else (if z < 0 then 0 else (if z ≤ (8 : Int32) then fE ((t * 9) + z).toNatClampNeg else 0)))))) ∧ h1 = ax_w h [(a, .inr (3, [.ref g, .ref pl, .ref od, .ref kt, .ref en, .ref bg, .int us, .int ov, .int rc, .int fr])), (en, .inl (0, 36, .inl fE))]) 0 [(0, .ref a), (1, .int t), (2, .int z)] [] (ax_w h [(a, .inr (3, [.ref g, .ref pl, .ref od, .ref kt, .ref en, .ref bg, .int us, .int ov, .int rc, .int fr])), (en, .inl (0, 36, .inl fE))]) 0 0 := by
  obtain ⟨Q, hQ⟩ : ∃ Q : ax_P, Q = (fun r h1 => r = .inl (some (.int (if t < 0 then 0 else (if (4 : Int32) ≤ t then 0 else (if z < 0 then 0 else (if z ≤ (8 : Int32) then fE ((t * 9) + z).toNatClampNeg else 0)))))) ∧ h1 = ax_w h [(a, .inr (3, [.ref g, .ref pl, .ref od, .ref kt, .ref en, .ref bg, .int us, .int ov, .int rc, .int fr])), (en, .inl (0, 36, .inl fE))]) := ⟨_, rfl⟩
  rw [← hQ]
  refine ax_iload_n dX3_upTo_0 rfl ?_
  refine ax_if_lt (tgt := 19) dX3_upTo_1 (by decide) (fun c1 => ?_) (fun c1 => ?_)
  · refine ax_iconst (v := 0) dX3_upTo_19 (by decide) ?_
    exact ax_iret (st := []) dX3_upTo_20 rfl (by repeat (first | rfl | split)) (by rw [hQ]; refine ⟨?_, ?_⟩ <;> (repeat rw [if_pos c1]) <;> (try rfl))
  · refine ax_iload_n dX3_upTo_4 rfl ?_
    refine ax_iconst (v := 4) dX3_upTo_5 (by decide) ?_
    refine ax_icmp_ge (tgt := 19) dX3_upTo_6 (by decide) (fun c2 => ?_) (fun c2 => ?_)
    · refine ax_iconst (v := 0) dX3_upTo_19 (by decide) ?_
      exact ax_iret (st := []) dX3_upTo_20 rfl (by repeat (first | rfl | split)) (by rw [hQ]; refine ⟨?_, ?_⟩ <;> (repeat rw [if_neg c1]) <;> (repeat rw [if_pos c2]) <;> (try rfl))
    · refine ax_iload_n dX3_upTo_9 rfl ?_
      refine ax_if_lt (tgt := 19) dX3_upTo_10 (by decide) (fun c3 => ?_) (fun c3 => ?_)
      · refine ax_iconst (v := 0) dX3_upTo_19 (by decide) ?_
        exact ax_iret (st := []) dX3_upTo_20 rfl (by repeat (first | rfl | split)) (by rw [hQ]; refine ⟨?_, ?_⟩ <;> (repeat rw [if_neg c1]) <;> (repeat rw [if_neg c2]) <;> (repeat rw [if_pos c3]) <;> (try rfl))
      · refine ax_iload_n dX3_upTo_13 rfl ?_
        refine ax_bipush (v := 8) dX3_upTo_14 (by decide) ?_
        refine ax_icmp_le (tgt := 21) dX3_upTo_16 (by decide) (fun c4 => ?_) (fun c4 => ?_)
        · refine ax_aload_n dX3_upTo_21 rfl ?_
          refine ax_wget 0 hn rfl dX3_upTo_22 fkX3_29 rfl ?_
          refine ax_iload_n dX3_upTo_25 rfl ?_
          refine ax_bipush (v := 9) dX3_upTo_26 (by decide) ?_
          refine ax_imul dX3_upTo_28 ?_
          refine ax_iload_n dX3_upTo_29 rfl ?_
          refine ax_iadd dX3_upTo_30 ?_
          refine ax_wiald 1 hn rfl dX3_upTo_31 (ax_lin (M := 9) (a := 4) (b := 9) (w := 9) c1 c2 c3 (ax_nle (ax_le8 c4)) (by decide) (by decide) (by decide) (by decide) (by decide)) ?_
          exact ax_iret (st := []) dX3_upTo_32 rfl (by repeat (first | rfl | split)) (by rw [hQ]; refine ⟨?_, ?_⟩ <;> (repeat rw [if_neg c1]) <;> (repeat rw [if_neg c2]) <;> (repeat rw [if_neg c3]) <;> (repeat rw [if_pos c4]) <;> (try rfl))
        · refine ax_iconst (v := 0) dX3_upTo_19 (by decide) ?_
          exact ax_iret (st := []) dX3_upTo_20 rfl (by repeat (first | rfl | split)) (by rw [hQ]; refine ⟨?_, ?_⟩ <;> (repeat rw [if_neg c1]) <;> (repeat rw [if_neg c2]) <;> (repeat rw [if_neg c3]) <;> (repeat rw [if_neg c4]) <;> (try rfl))
set_option maxRecDepth 100000 in
set_option maxHeartbeats 4000000 in
theorem ctX3_valueAt {G : ax_G} (d : Nat) (h : ax_H) (a g pl od kt en bg : Nat) (us ov rc fr : Int32) (t z : Int32) (fD : Nat → Option Nat) (fK : Nat → Int32) (hn : ([a, od, kt] : List Nat).Nodup) : AW G mX3_valueAt d 0 0 (fun r h1 => r = .inl (some ((va_rf (if t < 0 then none else (if (4 : Int32) ≤ t then none else (if z < 0 then none else (if (300 : Int32) ≤ z then none else (if z < (fK t.toNatClampNeg) then (fD ((t * 300) + z).toNatClampNeg) else none)))))))) ∧ h1 = ax_w h [(a, .inr (3, [.ref g, .ref pl, .ref od, .ref kt, .ref en, .ref bg, .int us, .int ov, .int rc, .int fr])), (od, .inl (3, 1200, .inr (.inr (.inr (.inr fD))))), (kt, .inl (0, 4, .inl fK))]) 0 [(0, .ref a), (1, .int t), (2, .int z)] [] (ax_w h [(a, .inr (3, [.ref g, .ref pl, .ref od, .ref kt, .ref en, .ref bg, .int us, .int ov, .int rc, .int fr])), (od, .inl (3, 1200, .inr (.inr (.inr (.inr fD))))), (kt, .inl (0, 4, .inl fK))]) 0 0 := by
  obtain ⟨Q, hQ⟩ : ∃ Q : ax_P, Q = (fun r h1 => r = .inl (some ((va_rf (if t < 0 then none else (if (4 : Int32) ≤ t then none else (if z < 0 then none else (if (300 : Int32) ≤ z then none else (if z < (fK t.toNatClampNeg) then (fD ((t * 300) + z).toNatClampNeg) else none)))))))) ∧ h1 = ax_w h [(a, .inr (3, [.ref g, .ref pl, .ref od, .ref kt, .ref en, .ref bg, .int us, .int ov, .int rc, .int fr])), (od, .inl (3, 1200, .inr (.inr (.inr (.inr fD))))), (kt, .inl (0, 4, .inl fK))]) := ⟨_, rfl⟩
  rw [← hQ]
  refine ax_iload_n dX3_valueAt_0 rfl ?_
  refine ax_if_lt (tgt := 30) dX3_valueAt_1 (by decide) (fun c1 => ?_) (fun c1 => ?_)
  · refine ax_null dX3_valueAt_30 ?_
    exact ax_aret (st := []) dX3_valueAt_31 rfl (Or.inl ⟨_, rfl⟩) (by first | exact Or.inl rfl | exact Or.inr ⟨_, rfl⟩ | exact ax_rfv _) (by rw [hQ]; refine ⟨?_, ?_⟩ <;> (repeat rw [if_pos c1]) <;> (try rfl))
  · refine ax_iload_n dX3_valueAt_4 rfl ?_
    refine ax_iconst (v := 4) dX3_valueAt_5 (by decide) ?_
    refine ax_icmp_ge (tgt := 30) dX3_valueAt_6 (by decide) (fun c2 => ?_) (fun c2 => ?_)
    · refine ax_null dX3_valueAt_30 ?_
      exact ax_aret (st := []) dX3_valueAt_31 rfl (Or.inl ⟨_, rfl⟩) (by first | exact Or.inl rfl | exact Or.inr ⟨_, rfl⟩ | exact ax_rfv _) (by rw [hQ]; refine ⟨?_, ?_⟩ <;> (repeat rw [if_neg c1]) <;> (repeat rw [if_pos c2]) <;> (try rfl))
    · refine ax_iload_n dX3_valueAt_9 rfl ?_
      refine ax_if_lt (tgt := 30) dX3_valueAt_10 (by decide) (fun c3 => ?_) (fun c3 => ?_)
      · refine ax_null dX3_valueAt_30 ?_
        exact ax_aret (st := []) dX3_valueAt_31 rfl (Or.inl ⟨_, rfl⟩) (by first | exact Or.inl rfl | exact Or.inr ⟨_, rfl⟩ | exact ax_rfv _) (by rw [hQ]; refine ⟨?_, ?_⟩ <;> (repeat rw [if_neg c1]) <;> (repeat rw [if_neg c2]) <;> (repeat rw [if_pos c3]) <;> (try rfl))
      · refine ax_iload_n dX3_valueAt_13 rfl ?_
        refine ax_sipush (v := 300) dX3_valueAt_14 (by decide) ?_
        refine ax_icmp_ge (tgt := 30) dX3_valueAt_17 (by decide) (fun c4 => ?_) (fun c4 => ?_)
        · refine ax_null dX3_valueAt_30 ?_
          exact ax_aret (st := []) dX3_valueAt_31 rfl (Or.inl ⟨_, rfl⟩) (by first | exact Or.inl rfl | exact Or.inr ⟨_, rfl⟩ | exact ax_rfv _) (by rw [hQ]; refine ⟨?_, ?_⟩ <;> (repeat rw [if_neg c1]) <;> (repeat rw [if_neg c2]) <;> (repeat rw [if_neg c3]) <;> (repeat rw [if_pos c4]) <;> (try rfl))
        · refine ax_iload_n dX3_valueAt_20 rfl ?_
          refine ax_aload_n dX3_valueAt_21 rfl ?_
          refine ax_wget 0 hn rfl dX3_valueAt_22 fkX3_25 rfl ?_
          refine ax_iload_n dX3_valueAt_25 rfl ?_
          refine ax_wiald 2 hn rfl dX3_valueAt_26 (ax_in c1 c2 (by decide)) ?_
          refine ax_icmp_lt (tgt := 32) dX3_valueAt_27 (by decide) (fun c5 => ?_) (fun c5 => ?_)
          · refine ax_aload_n dX3_valueAt_32 rfl ?_
            refine ax_wget 0 hn rfl dX3_valueAt_33 fkX3_22 rfl ?_
            refine ax_iload_n dX3_valueAt_36 rfl ?_
            refine ax_sipush (v := 300) dX3_valueAt_37 (by decide) ?_
            refine ax_imul dX3_valueAt_40 ?_
            refine ax_iload_n dX3_valueAt_41 rfl ?_
            refine ax_iadd dX3_valueAt_42 ?_
            refine ax_waald3 1 hn rfl dX3_valueAt_43 (ax_lin (M := 300) (a := 4) (b := 300) (w := 300) c1 c2 c3 c4 (by decide) (by decide) (by decide) (by decide) (by decide)) ?_
            exact ax_aret (st := []) dX3_valueAt_44 rfl (Or.inl ⟨_, rfl⟩) (by first | exact Or.inl rfl | exact Or.inr ⟨_, rfl⟩ | exact ax_rfv _) (by rw [hQ]; refine ⟨?_, ?_⟩ <;> (repeat rw [if_neg c1]) <;> (repeat rw [if_neg c2]) <;> (repeat rw [if_neg c3]) <;> (repeat rw [if_neg c4]) <;> (repeat rw [if_pos c5]) <;> (try rfl))
          · refine ax_null dX3_valueAt_30 ?_
            exact ax_aret (st := []) dX3_valueAt_31 rfl (Or.inl ⟨_, rfl⟩) (by first | exact Or.inl rfl | exact Or.inr ⟨_, rfl⟩ | exact ax_rfv _) (by rw [hQ]; refine ⟨?_, ?_⟩ <;> (repeat rw [if_neg c1]) <;> (repeat rw [if_neg c2]) <;> (repeat rw [if_neg c3]) <;> (repeat rw [if_neg c4]) <;> (repeat rw [if_neg c5]) <;> (try rfl))
set_option maxRecDepth 100000 in
set_option maxHeartbeats 4000000 in
theorem ctX4_next {G : ax_G} (d : Nat) (h : ax_H) (a g n dr : Nat) (op ps kp : Int32) (fN : Nat → Int32) (hn : ([a, n] : List Nat).Nodup) : AW G mX4_next d 0 0 (fun r h1 => r = .inl (some (.int (if ps < 0 then (-1) else (if kp ≤ ps then (-1) else (if ps < (40 : Int32) then fN ((ps + 1) - 1).toNatClampNeg else (-1)))))) ∧ h1 = ax_w h [(a, .inr (4, [.ref g, .ref n, .ref dr, .int op, .int (if ps < 0 then ps else (if kp ≤ ps then ps else (if ps < (40 : Int32) then ps + 1 else ps))), .int kp])), (n, .inl (0, 40, .inl fN))]) 0 [(0, .ref a)] [] (ax_w h [(a, .inr (4, [.ref g, .ref n, .ref dr, .int op, .int ps, .int kp])), (n, .inl (0, 40, .inl fN))]) 0 0 := by
  obtain ⟨Q, hQ⟩ : ∃ Q : ax_P, Q = (fun r h1 => r = .inl (some (.int (if ps < 0 then (-1) else (if kp ≤ ps then (-1) else (if ps < (40 : Int32) then fN ((ps + 1) - 1).toNatClampNeg else (-1)))))) ∧ h1 = ax_w h [(a, .inr (4, [.ref g, .ref n, .ref dr, .int op, .int (if ps < 0 then ps else (if kp ≤ ps then ps else (if ps < (40 : Int32) then ps + 1 else ps))), .int kp])), (n, .inl (0, 40, .inl fN))]) := ⟨_, rfl⟩
  rw [← hQ]
  refine ax_aload_n dX4_next_0 rfl ?_
  refine ax_wget 0 hn rfl dX4_next_1 fkX4_30 rfl ?_
  refine ax_if_lt (tgt := 27) dX4_next_4 (by decide) (fun c1 => ?_) (fun c1 => ?_)
  · refine ax_iconst (v := (-1)) dX4_next_27 (by decide) ?_
    exact ax_iret (st := []) dX4_next_28 rfl (by repeat (first | rfl | split)) (by rw [hQ]; refine ⟨?_, ?_⟩ <;> (repeat rw [if_pos c1]) <;> (try rfl))
  · refine ax_aload_n dX4_next_7 rfl ?_
    refine ax_wget 0 hn rfl dX4_next_8 fkX4_30 rfl ?_
    refine ax_aload_n dX4_next_11 rfl ?_
    refine ax_wget 0 hn rfl dX4_next_12 fkX4_33 rfl ?_
    refine ax_icmp_ge (tgt := 27) dX4_next_15 (by decide) (fun c2 => ?_) (fun c2 => ?_)
    · refine ax_iconst (v := (-1)) dX4_next_27 (by decide) ?_
      exact ax_iret (st := []) dX4_next_28 rfl (by repeat (first | rfl | split)) (by rw [hQ]; refine ⟨?_, ?_⟩ <;> (repeat rw [if_neg c1]) <;> (repeat rw [if_pos c2]) <;> (try rfl))
    · refine ax_aload_n dX4_next_18 rfl ?_
      refine ax_wget 0 hn rfl dX4_next_19 fkX4_30 rfl ?_
      refine ax_bipush (v := 40) dX4_next_22 (by decide) ?_
      refine ax_icmp_lt (tgt := 29) dX4_next_24 (by decide) (fun c3 => ?_) (fun c3 => ?_)
      · refine ax_aload_n dX4_next_29 rfl ?_
        refine ax_dup dX4_next_30 rfl ?_
        refine ax_wget 0 hn rfl dX4_next_31 fkX4_30 rfl ?_
        refine ax_iconst (v := 1) dX4_next_34 (by decide) ?_
        refine ax_iadd dX4_next_35 ?_
        refine ax_wput (l' := [(a, .inr (4, [.ref g, .ref n, .ref dr, .int op, .int (ps + 1), .int kp])), (n, .inl (0, 40, .inl fN))]) 0 hn rfl dX4_next_36 fpX4_30 rfl rfl (Nat.le_of_ble_eq_true rfl) rfl ?_
        refine ax_aload_n dX4_next_39 rfl ?_
        refine ax_wget 0 hn rfl dX4_next_40 fkX4_15 rfl ?_
        refine ax_aload_n dX4_next_43 rfl ?_
        refine ax_wget 0 hn rfl dX4_next_44 fkX4_30 rfl ?_
        refine ax_iconst (v := 1) dX4_next_47 (by decide) ?_
        refine ax_isub dX4_next_48 ?_
        refine ax_wiald 1 hn rfl dX4_next_49 (ax_in (x := ps + 1 - 1) (by rw [ax_p1]; exact c1) (by rw [ax_p1]; exact ax_nle c3) (by decide)) ?_
        exact ax_iret (st := []) dX4_next_50 rfl (by repeat (first | rfl | split)) (by rw [hQ]; refine ⟨?_, ?_⟩ <;> (repeat rw [if_neg c1]) <;> (repeat rw [if_neg c2]) <;> (repeat rw [if_pos c3]) <;> (try rfl))
      · refine ax_iconst (v := (-1)) dX4_next_27 (by decide) ?_
        exact ax_iret (st := []) dX4_next_28 rfl (by repeat (first | rfl | split)) (by rw [hQ]; refine ⟨?_, ?_⟩ <;> (repeat rw [if_neg c1]) <;> (repeat rw [if_neg c2]) <;> (repeat rw [if_neg c3]) <;> (try rfl))
set_option maxRecDepth 100000 in
set_option maxHeartbeats 4000000 in
theorem ctX4_append {G : ax_G} (d : Nat) (h : ax_H) (a g n dr : Nat) (op ps kp : Int32) (k : Int32) (fN : Nat → Int32) (h0 : ¬ kp < 0) (h1 : ¬ 40 ≤ kp) (hn : ([a, n] : List Nat).Nodup) : AW G mX4_append d 0 0 (fun r h1 => r = .inl none ∧ h1 = ax_w h [(a, .inr (4, [.ref g, .ref n, .ref dr, .int op, .int ps, .int (kp + 1)])), (n, .inl (0, 40, .inl (upd fN kp.toNatClampNeg k)))]) 0 [(0, .ref a), (1, .int k)] [] (ax_w h [(a, .inr (4, [.ref g, .ref n, .ref dr, .int op, .int ps, .int kp])), (n, .inl (0, 40, .inl fN))]) 0 0 := by
  obtain ⟨Q, hQ⟩ : ∃ Q : ax_P, Q = (fun r h1 => r = .inl none ∧ h1 = ax_w h [(a, .inr (4, [.ref g, .ref n, .ref dr, .int op, .int ps, .int (kp + 1)])), (n, .inl (0, 40, .inl (upd fN kp.toNatClampNeg k)))]) := ⟨_, rfl⟩
  rw [← hQ]
  refine ax_aload_n dX4_append_0 rfl ?_
  refine ax_wget 0 hn rfl dX4_append_1 fkX4_33 rfl ?_
  refine ax_if_lt (tgt := 36) dX4_append_4 (by decide) (fun z => absurd z h0) (fun _ => ?_)
  refine ax_aload_n dX4_append_7 rfl ?_
  refine ax_wget 0 hn rfl dX4_append_8 fkX4_33 rfl ?_
  refine ax_bipush (v := 40) dX4_append_11 (by decide) ?_
  refine ax_icmp_ge (tgt := 36) dX4_append_13 (by decide) (fun z => absurd z h1) (fun _ => ?_)
  refine ax_aload_n dX4_append_16 rfl ?_
  refine ax_wget 0 hn rfl dX4_append_17 fkX4_15 rfl ?_
  refine ax_aload_n dX4_append_20 rfl ?_
  refine ax_wget 0 hn rfl dX4_append_21 fkX4_33 rfl ?_
  refine ax_iload_n dX4_append_24 rfl ?_
  refine ax_wiast (l' := [(a, .inr (4, [.ref g, .ref n, .ref dr, .int op, .int ps, .int kp])), (n, .inl (0, 40, .inl (upd fN kp.toNatClampNeg k)))]) 1 hn rfl dX4_append_25 (ax_in h0 h1 (by decide)) rfl ?_
  refine ax_aload_n dX4_append_26 rfl ?_
  refine ax_dup dX4_append_27 rfl ?_
  refine ax_wget 0 hn rfl dX4_append_28 fkX4_33 rfl ?_
  refine ax_iconst (v := 1) dX4_append_31 (by decide) ?_
  refine ax_iadd dX4_append_32 ?_
  refine ax_wput (l' := [(a, .inr (4, [.ref g, .ref n, .ref dr, .int op, .int ps, .int (kp + 1)])), (n, .inl (0, 40, .inl (upd fN kp.toNatClampNeg k)))]) 0 hn rfl dX4_append_33 fpX4_33 rfl rfl (Nat.le_of_ble_eq_true rfl) rfl ?_
  exact ax_vret (st := []) dX4_append_36 rfl (by rw [hQ]; refine ⟨?_, ?_⟩ <;> (try rfl))
set_option maxRecDepth 100000 in
set_option maxHeartbeats 4000000 in
theorem ctX2_at {G : ax_G} (d : Nat) (h : ax_H) (a v : Nat) (kp k : Int32) (fV : Nat → Option Nat) (hn : ([a, v] : List Nat).Nodup) : AW G mX2_at d 0 0 (fun r h1 => r = .inl (some ((va_rf (if k < 0 then none else (if kp ≤ k then none else (if (nI 300) ≤ k then none else (fV k.toNatClampNeg))))))) ∧ h1 = ax_w h [(a, .inr (2, [.ref v, .int kp])), (v, .inl (3, 300, .inr (.inr (.inr (.inr fV)))))]) 0 [(0, .ref a), (1, .int k)] [] (ax_w h [(a, .inr (2, [.ref v, .int kp])), (v, .inl (3, 300, .inr (.inr (.inr (.inr fV)))))]) 0 0 := by
  obtain ⟨Q, hQ⟩ : ∃ Q : ax_P, Q = (fun r h1 => r = .inl (some ((va_rf (if k < 0 then none else (if kp ≤ k then none else (if (nI 300) ≤ k then none else (fV k.toNatClampNeg))))))) ∧ h1 = ax_w h [(a, .inr (2, [.ref v, .int kp])), (v, .inl (3, 300, .inr (.inr (.inr (.inr fV)))))]) := ⟨_, rfl⟩
  rw [← hQ]
  refine ax_iload_n dX2_at_0 rfl ?_
  have J31 : AW G mX2_at d 0 0 Q 31 [(0, .ref a), (1, .int k)] [(va_rf (if k < 0 then none else (if kp ≤ k then none else (if (nI 300) ≤ k then none else (fV k.toNatClampNeg)))))] (ax_w h [(a, .inr (2, [.ref v, .int kp])), (v, .inl (3, 300, .inr (.inr (.inr (.inr fV)))))]) 0 0 := by
    exact ax_aret (st := []) dX2_at_31 rfl (Or.inl ⟨_, rfl⟩) (by first | exact Or.inl rfl | exact Or.inr ⟨_, rfl⟩ | exact ax_rfv _) (by rw [hQ]; refine ⟨?_, ?_⟩ <;> (try rfl))
  refine ax_if_lt (tgt := 30) dX2_at_1 (by decide) (fun c1 => ?_) (fun c1 => ?_)
  · refine ax_null dX2_at_30 ?_
    repeat rw [if_pos c1] at J31
    first | exact J31 | contradiction
  · refine ax_iload_n dX2_at_4 rfl ?_
    refine ax_aload_n dX2_at_5 rfl ?_
    refine ax_wget 0 hn rfl dX2_at_6 fkX2_17 rfl ?_
    refine ax_icmp_ge (tgt := 30) dX2_at_9 (by decide) (fun c2 => ?_) (fun c2 => ?_)
    · refine ax_null dX2_at_30 ?_
      repeat rw [if_neg c1] at J31
      repeat rw [if_pos c2] at J31
      first | exact J31 | contradiction
    · refine ax_iload_n dX2_at_12 rfl ?_
      refine ax_aload_n dX2_at_13 rfl ?_
      refine ax_wget 0 hn rfl dX2_at_14 fkX2_11 rfl ?_
      refine ax_alen dX2_at_17 (ax_w_get hn (i := 1) rfl) (by decide) ?_
      refine ax_icmp_ge (tgt := 30) dX2_at_18 (by decide) (fun c3 => ?_) (fun c3 => ?_)
      · refine ax_null dX2_at_30 ?_
        repeat rw [if_neg c1] at J31
        repeat rw [if_neg c2] at J31
        repeat rw [if_pos c3] at J31
        first | exact J31 | contradiction
      · refine ax_aload_n dX2_at_21 rfl ?_
        refine ax_wget 0 hn rfl dX2_at_22 fkX2_11 rfl ?_
        refine ax_iload_n dX2_at_25 rfl ?_
        refine ax_waald3 1 hn rfl dX2_at_26 (ax_in c1 c3 (by decide)) ?_
        refine ax_goto (tgt := 31) dX2_at_27 (by decide) ?_
        repeat rw [if_neg c1] at J31
        repeat rw [if_neg c2] at J31
        repeat rw [if_neg c3] at J31
        first | exact J31 | contradiction
