set_option maxRecDepth 100000 in
set_option maxHeartbeats 4000000 in
theorem ctX1_hasType {G : ax_G} (d : Nat) (h : ax_H) (a : Nat) (lo hi ty nc : Int32) (gO gP gT gC : Nat) (k : Int32) (hn : ([a] : List Nat).Nodup) : AW G mX1_hasType d 0 0 (fun r h1 => r = .inl (some (.int (if k < 0 then 0 else (if ty ≤ k then 0 else 1)))) ∧ h1 = ax_w h [(a, .inr (1, [.int lo, .int hi, .int ty, .int nc, .ref gO, .ref gP, .ref gT, .ref gC]))]) 0 [(0, .ref a), (1, .int k)] [] (ax_w h [(a, .inr (1, [.int lo, .int hi, .int ty, .int nc, .ref gO, .ref gP, .ref gT, .ref gC]))]) 0 0 := by
  obtain ⟨Q, hQ⟩ : ∃ Q : ax_P, Q = (fun r h1 => r = .inl (some (.int (if k < 0 then 0 else (if ty ≤ k then 0 else 1)))) ∧ h1 = ax_w h [(a, .inr (1, [.int lo, .int hi, .int ty, .int nc, .ref gO, .ref gP, .ref gT, .ref gC]))]) := ⟨_, rfl⟩
  rw [← hQ]
  refine ax_iload_n dX1_hasType_0 rfl ?_
  have J17 : AW G mX1_hasType d 0 0 Q 17 [(0, .ref a), (1, .int k)] [.int (if k < 0 then 0 else (if ty ≤ k then 0 else 1))] (ax_w h [(a, .inr (1, [.int lo, .int hi, .int ty, .int nc, .ref gO, .ref gP, .ref gT, .ref gC]))]) 0 0 := by
    exact ax_iret (st := []) dX1_hasType_17 rfl (by repeat (first | rfl | split)) (by rw [hQ]; refine ⟨?_, ?_⟩ <;> (try rfl))
  refine ax_if_lt (tgt := 16) dX1_hasType_1 (by decide) (fun c1 => ?_) (fun c1 => ?_)
  · refine ax_iconst (v := 0) dX1_hasType_16 (by decide) ?_
    repeat rw [if_pos c1] at J17
    first | exact J17 | contradiction
  · refine ax_iload_n dX1_hasType_4 rfl ?_
    refine ax_aload_n dX1_hasType_5 rfl ?_
    refine ax_wget 0 hn rfl dX1_hasType_6 fkX1_18 rfl ?_
    refine ax_icmp_ge (tgt := 16) dX1_hasType_9 (by decide) (fun c2 => ?_) (fun c2 => ?_)
    · refine ax_iconst (v := 0) dX1_hasType_16 (by decide) ?_
      repeat rw [if_neg c1] at J17
      repeat rw [if_pos c2] at J17
      first | exact J17 | contradiction
    · refine ax_iconst (v := 1) dX1_hasType_12 (by decide) ?_
      refine ax_goto (tgt := 17) dX1_hasType_13 (by decide) ?_
      repeat rw [if_neg c1] at J17
      repeat rw [if_neg c2] at J17
      first | exact J17 | contradiction
set_option maxRecDepth 100000 in
set_option maxHeartbeats 4000000 in
theorem ctX1_hasConstructor {G : ax_G} (d : Nat) (h : ax_H) (a : Nat) (lo hi ty nc : Int32) (gO gP gT gC : Nat) (k : Int32) (hn : ([a] : List Nat).Nodup) : AW G mX1_hasConstructor d 0 0 (fun r h1 => r = .inl (some (.int (if k < 0 then 0 else (if nc ≤ k then 0 else (if (6 : Int32) ≤ k then 0 else 1))))) ∧ h1 = ax_w h [(a, .inr (1, [.int lo, .int hi, .int ty, .int nc, .ref gO, .ref gP, .ref gT, .ref gC]))]) 0 [(0, .ref a), (1, .int k)] [] (ax_w h [(a, .inr (1, [.int lo, .int hi, .int ty, .int nc, .ref gO, .ref gP, .ref gT, .ref gC]))]) 0 0 := by
  obtain ⟨Q, hQ⟩ : ∃ Q : ax_P, Q = (fun r h1 => r = .inl (some (.int (if k < 0 then 0 else (if nc ≤ k then 0 else (if (6 : Int32) ≤ k then 0 else 1))))) ∧ h1 = ax_w h [(a, .inr (1, [.int lo, .int hi, .int ty, .int nc, .ref gO, .ref gP, .ref gT, .ref gC]))]) := ⟨_, rfl⟩
  rw [← hQ]
  refine ax_iload_n dX1_hasConstructor_0 rfl ?_
  have J23 : AW G mX1_hasConstructor d 0 0 Q 23 [(0, .ref a), (1, .int k)] [.int (if k < 0 then 0 else (if nc ≤ k then 0 else (if (6 : Int32) ≤ k then 0 else 1)))] (ax_w h [(a, .inr (1, [.int lo, .int hi, .int ty, .int nc, .ref gO, .ref gP, .ref gT, .ref gC]))]) 0 0 := by
    exact ax_iret (st := []) dX1_hasConstructor_23 rfl (by repeat (first | rfl | split)) (by rw [hQ]; refine ⟨?_, ?_⟩ <;> (try rfl))
  refine ax_if_lt (tgt := 22) dX1_hasConstructor_1 (by decide) (fun c1 => ?_) (fun c1 => ?_)
  · refine ax_iconst (v := 0) dX1_hasConstructor_22 (by decide) ?_
    repeat rw [if_pos c1] at J23
    first | exact J23 | contradiction
  · refine ax_iload_n dX1_hasConstructor_4 rfl ?_
    refine ax_aload_n dX1_hasConstructor_5 rfl ?_
    refine ax_wget 0 hn rfl dX1_hasConstructor_6 fkX1_21 rfl ?_
    refine ax_icmp_ge (tgt := 22) dX1_hasConstructor_9 (by decide) (fun c2 => ?_) (fun c2 => ?_)
    · refine ax_iconst (v := 0) dX1_hasConstructor_22 (by decide) ?_
      repeat rw [if_neg c1] at J23
      repeat rw [if_pos c2] at J23
      first | exact J23 | contradiction
    · refine ax_iload_n dX1_hasConstructor_12 rfl ?_
      refine ax_bipush (v := 6) dX1_hasConstructor_13 (by decide) ?_
      refine ax_icmp_ge (tgt := 22) dX1_hasConstructor_15 (by decide) (fun c3 => ?_) (fun c3 => ?_)
      · refine ax_iconst (v := 0) dX1_hasConstructor_22 (by decide) ?_
        repeat rw [if_neg c1] at J23
        repeat rw [if_neg c2] at J23
        repeat rw [if_pos c3] at J23
        first | exact J23 | contradiction
      · refine ax_iconst (v := 1) dX1_hasConstructor_18 (by decide) ?_
        refine ax_goto (tgt := 23) dX1_hasConstructor_19 (by decide) ?_
        repeat rw [if_neg c1] at J23
        repeat rw [if_neg c2] at J23
        repeat rw [if_neg c3] at J23
        first | exact J23 | contradiction
set_option maxRecDepth 100000 in
set_option maxHeartbeats 4000000 in
theorem ctX1_isParameter {G : ax_G} (d : Nat) (h : ax_H) (a : Nat) (lo hi ty nc : Int32) (gO gP gT gC : Nat) (k : Int32) (hn : ([a] : List Nat).Nodup) : AW G mX1_isParameter (d + 1) 0 0 (fun r h1 => r = .inl (some (.int (if k = ((-1) : Int32) then 1 else (if k = (9 : Int32) then 1 else (if ((if k < 0 then 0 else (if ty ≤ k then 0 else 1)) : Int32) = 0 then 0 else 1))))) ∧ h1 = ax_w h [(a, .inr (1, [.int lo, .int hi, .int ty, .int nc, .ref gO, .ref gP, .ref gT, .ref gC]))]) 0 [(0, .ref a), (1, .int k)] [] (ax_w h [(a, .inr (1, [.int lo, .int hi, .int ty, .int nc, .ref gO, .ref gP, .ref gT, .ref gC]))]) 0 0 := by
  obtain ⟨Q, hQ⟩ : ∃ Q : ax_P, Q = (fun r h1 => r = .inl (some (.int (if k = ((-1) : Int32) then 1 else (if k = (9 : Int32) then 1 else (if ((if k < 0 then 0 else (if ty ≤ k then 0 else 1)) : Int32) = 0 then 0 else 1))))) ∧ h1 = ax_w h [(a, .inr (1, [.int lo, .int hi, .int ty, .int nc, .ref gO, .ref gP, .ref gT, .ref gC]))]) := ⟨_, rfl⟩
  rw [← hQ]
  refine ax_iload_n dX1_isParameter_0 rfl ?_
  refine ax_iconst (v := (-1)) dX1_isParameter_1 (by decide) ?_
  have J24 : AW G mX1_isParameter (d + 1) 0 0 Q 24 [(0, .ref a), (1, .int k)] [.int (if k = ((-1) : Int32) then 1 else (if k = (9 : Int32) then 1 else (if ((if k < 0 then 0 else (if ty ≤ k then 0 else 1)) : Int32) = 0 then 0 else 1)))] (ax_w h [(a, .inr (1, [.int lo, .int hi, .int ty, .int nc, .ref gO, .ref gP, .ref gT, .ref gC]))]) 0 0 := by
    exact ax_iret (st := []) dX1_isParameter_24 rfl (by repeat (first | rfl | split)) (by rw [hQ]; refine ⟨?_, ?_⟩ <;> (try rfl))
  refine ax_icmp_eq (tgt := 19) dX1_isParameter_2 (by decide) (fun c1 => ?_) (fun c1 => ?_)
  · refine ax_iconst (v := 1) dX1_isParameter_19 (by decide) ?_
    refine ax_goto (tgt := 24) dX1_isParameter_20 (by decide) ?_
    repeat rw [if_pos c1] at J24
    first | exact J24 | contradiction
  · refine ax_iload_n dX1_isParameter_5 rfl ?_
    refine ax_bipush (v := 9) dX1_isParameter_6 (by decide) ?_
    refine ax_icmp_eq (tgt := 19) dX1_isParameter_8 (by decide) (fun c2 => ?_) (fun c2 => ?_)
    · refine ax_iconst (v := 1) dX1_isParameter_19 (by decide) ?_
      refine ax_goto (tgt := 24) dX1_isParameter_20 (by decide) ?_
      repeat rw [if_neg c1] at J24
      repeat rw [if_pos c2] at J24
      first | exact J24 | contradiction
    · refine ax_aload_n dX1_isParameter_11 rfl ?_
      refine ax_iload_n dX1_isParameter_12 rfl ?_
      refine ax_callV (b := a) (av := [.int k]) (rest := []) (mc' := 0) (ms' := 0) dX1_isParameter_13 rfl lkX1_41 (ax_w_get hn (i := 0) rfl) rfl (Nat.le_of_ble_eq_true rfl) (Nat.le_of_ble_eq_true rfl) (Nat.le_refl 0) (Nat.le_refl 0) (ax_eqh (ax_w_sub (l := [(a, .inr (1, [.int lo, .int hi, .int ty, .int nc, .ref gO, .ref gP, .ref gT, .ref gC]))]) (lc := [(a, .inr (1, [.int lo, .int hi, .int ty, .int nc, .ref gO, .ref gP, .ref gT, .ref gC]))]) hn [0] rfl).symm (ctX1_hasType _ _ a lo hi ty nc gO gP gT gC k hn)) (fun E9 h9 q9 => by cases q9.1) (fun v9 h9 q9 => ?_)
      obtain ⟨e9, rfl⟩ := q9
      cases e9
      refine ax_eqh (ax_w_ov (l := [(a, .inr (1, [.int lo, .int hi, .int ty, .int nc, .ref gO, .ref gP, .ref gT, .ref gC]))]) (lc := [(a, .inr (1, [.int lo, .int hi, .int ty, .int nc, .ref gO, .ref gP, .ref gT, .ref gC]))]) (l' := [(a, .inr (1, [.int lo, .int hi, .int ty, .int nc, .ref gO, .ref gP, .ref gT, .ref gC]))]) hn [0] rfl rfl) ?_
      show AW G mX1_isParameter (d + 1) 0 0 Q 16 [(0, .ref a), (1, .int k)] [.int (if k < 0 then 0 else (if ty ≤ k then 0 else 1))] _ 0 0
      refine ax_if_eq (tgt := 23) dX1_isParameter_16 (by decide) (fun c3 => ?_) (fun c3 => ?_)
      · refine ax_iconst (v := 0) dX1_isParameter_23 (by decide) ?_
        repeat rw [if_neg c1] at J24
        repeat rw [if_neg c2] at J24
        repeat rw [if_pos c3] at J24
        first | exact J24 | contradiction
      · refine ax_iconst (v := 1) dX1_isParameter_19 (by decide) ?_
        refine ax_goto (tgt := 24) dX1_isParameter_20 (by decide) ?_
        repeat rw [if_neg c1] at J24
        repeat rw [if_neg c2] at J24
        repeat rw [if_neg c3] at J24
        first | exact J24 | contradiction
set_option maxRecDepth 100000 in
set_option maxHeartbeats 4000000 in
theorem ctX1_allowsParameters {G : ax_G} (d : Nat) (h : ax_H) (a : Nat) (lo hi ty nc : Int32) (gO gP gT gC : Nat) (p1 p2 p3 : Int32) (hn : ([a] : List Nat).Nodup) : AW G mX1_allowsParameters (d + 2) 0 0 (fun r h1 => r = .inl (some (.int (if ((if p1 = ((-1) : Int32) then 1 else (if p1 = (9 : Int32) then 1 else (if ((if p1 < 0 then 0 else (if ty ≤ p1 then 0 else 1)) : Int32) = 0 then 0 else 1))) : Int32) = 0 then 0 else (if ((if p2 = ((-1) : Int32) then 1 else (if p2 = (9 : Int32) then 1 else (if ((if p2 < 0 then 0 else (if ty ≤ p2 then 0 else 1)) : Int32) = 0 then 0 else 1))) : Int32) = 0 then 0 else (if ((if p3 = ((-1) : Int32) then 1 else (if p3 = (9 : Int32) then 1 else (if ((if p3 < 0 then 0 else (if ty ≤ p3 then 0 else 1)) : Int32) = 0 then 0 else 1))) : Int32) = 0 then 0 else (if ((if p1 = ((-1) : Int32) then (if p2 = ((-1) : Int32) then (if p2 = ((-1) : Int32) then (if p3 = ((-1) : Int32) then 0 else 1) else 0) else 1) else (if p2 = ((-1) : Int32) then (if p3 = ((-1) : Int32) then 0 else 1) else 0)) : Int32) = 0 then (if ((if p1 < 0 then 0 else (if ty ≤ p1 then 0 else 1)) : Int32) = 0 then 1 else (if ((if p2 < 0 then 0 else (if ty ≤ p2 then 0 else 1)) : Int32) = 0 then 1 else (if ((if p3 < 0 then 0 else (if ty ≤ p3 then 0 else 1)) : Int32) = 0 then 1 else 0))) else 0)))))) ∧ h1 = ax_w h [(a, .inr (1, [.int lo, .int hi, .int ty, .int nc, .ref gO, .ref gP, .ref gT, .ref gC]))]) 0 [(0, .ref a), (1, .int p1), (2, .int p2), (3, .int p3)] [] (ax_w h [(a, .inr (1, [.int lo, .int hi, .int ty, .int nc, .ref gO, .ref gP, .ref gT, .ref gC]))]) 0 0 := by
  obtain ⟨Q, hQ⟩ : ∃ Q : ax_P, Q = (fun r h1 => r = .inl (some (.int (if ((if p1 = ((-1) : Int32) then 1 else (if p1 = (9 : Int32) then 1 else (if ((if p1 < 0 then 0 else (if ty ≤ p1 then 0 else 1)) : Int32) = 0 then 0 else 1))) : Int32) = 0 then 0 else (if ((if p2 = ((-1) : Int32) then 1 else (if p2 = (9 : Int32) then 1 else (if ((if p2 < 0 then 0 else (if ty ≤ p2 then 0 else 1)) : Int32) = 0 then 0 else 1))) : Int32) = 0 then 0 else (if ((if p3 = ((-1) : Int32) then 1 else (if p3 = (9 : Int32) then 1 else (if ((if p3 < 0 then 0 else (if ty ≤ p3 then 0 else 1)) : Int32) = 0 then 0 else 1))) : Int32) = 0 then 0 else (if ((if p1 = ((-1) : Int32) then (if p2 = ((-1) : Int32) then (if p2 = ((-1) : Int32) then (if p3 = ((-1) : Int32) then 0 else 1) else 0) else 1) else (if p2 = ((-1) : Int32) then (if p3 = ((-1) : Int32) then 0 else 1) else 0)) : Int32) = 0 then (if ((if p1 < 0 then 0 else (if ty ≤ p1 then 0 else 1)) : Int32) = 0 then 1 else (if ((if p2 < 0 then 0 else (if ty ≤ p2 then 0 else 1)) : Int32) = 0 then 1 else (if ((if p3 < 0 then 0 else (if ty ≤ p3 then 0 else 1)) : Int32) = 0 then 1 else 0))) else 0)))))) ∧ h1 = ax_w h [(a, .inr (1, [.int lo, .int hi, .int ty, .int nc, .ref gO, .ref gP, .ref gT, .ref gC]))]) := ⟨_, rfl⟩
  rw [← hQ]
  refine ax_aload_n dX1_allowsParameters_0 rfl ?_
  refine ax_iload_n dX1_allowsParameters_1 rfl ?_
  refine ax_callV (b := a) (av := [.int p1]) (rest := []) (mc' := 0) (ms' := 0) dX1_allowsParameters_2 rfl lkX1_37 (ax_w_get hn (i := 0) rfl) rfl (Nat.le_of_ble_eq_true rfl) (Nat.le_of_ble_eq_true rfl) (Nat.le_refl 0) (Nat.le_refl 0) (ax_eqh (ax_w_sub (l := [(a, .inr (1, [.int lo, .int hi, .int ty, .int nc, .ref gO, .ref gP, .ref gT, .ref gC]))]) (lc := [(a, .inr (1, [.int lo, .int hi, .int ty, .int nc, .ref gO, .ref gP, .ref gT, .ref gC]))]) hn [0] rfl).symm (ctX1_isParameter _ _ a lo hi ty nc gO gP gT gC p1 hn)) (fun E9 h9 q9 => by cases q9.1) (fun v9 h9 q9 => ?_)
  obtain ⟨e9, rfl⟩ := q9
  cases e9
  refine ax_eqh (ax_w_ov (l := [(a, .inr (1, [.int lo, .int hi, .int ty, .int nc, .ref gO, .ref gP, .ref gT, .ref gC]))]) (lc := [(a, .inr (1, [.int lo, .int hi, .int ty, .int nc, .ref gO, .ref gP, .ref gT, .ref gC]))]) (l' := [(a, .inr (1, [.int lo, .int hi, .int ty, .int nc, .ref gO, .ref gP, .ref gT, .ref gC]))]) hn [0] rfl rfl) ?_
  show AW G mX1_allowsParameters (d + 2) 0 0 Q 5 [(0, .ref a), (1, .int p1), (2, .int p2), (3, .int p3)] [.int (if p1 = ((-1) : Int32) then 1 else (if p1 = (9 : Int32) then 1 else (if ((if p1 < 0 then 0 else (if ty ≤ p1 then 0 else 1)) : Int32) = 0 then 0 else 1)))] _ 0 0
  refine ax_if_eq (tgt := 24) dX1_allowsParameters_5 (by decide) (fun c1 => ?_) (fun c1 => ?_)
  · refine ax_iconst (v := 0) dX1_allowsParameters_24 (by decide) ?_
    exact ax_iret (st := []) dX1_allowsParameters_25 rfl (by repeat (first | rfl | split)) (by rw [hQ]; refine ⟨?_, ?_⟩ <;> (repeat rw [if_pos c1]) <;> (try rfl))
  · refine ax_aload_n dX1_allowsParameters_8 rfl ?_
    refine ax_iload_n dX1_allowsParameters_9 rfl ?_
    refine ax_callV (b := a) (av := [.int p2]) (rest := []) (mc' := 0) (ms' := 0) dX1_allowsParameters_10 rfl lkX1_37 (ax_w_get hn (i := 0) rfl) rfl (Nat.le_of_ble_eq_true rfl) (Nat.le_of_ble_eq_true rfl) (Nat.le_refl 0) (Nat.le_refl 0) (ax_eqh (ax_w_sub (l := [(a, .inr (1, [.int lo, .int hi, .int ty, .int nc, .ref gO, .ref gP, .ref gT, .ref gC]))]) (lc := [(a, .inr (1, [.int lo, .int hi, .int ty, .int nc, .ref gO, .ref gP, .ref gT, .ref gC]))]) hn [0] rfl).symm (ctX1_isParameter _ _ a lo hi ty nc gO gP gT gC p2 hn)) (fun E9 h9 q9 => by cases q9.1) (fun v9 h9 q9 => ?_)
    obtain ⟨e9, rfl⟩ := q9
    cases e9
    refine ax_eqh (ax_w_ov (l := [(a, .inr (1, [.int lo, .int hi, .int ty, .int nc, .ref gO, .ref gP, .ref gT, .ref gC]))]) (lc := [(a, .inr (1, [.int lo, .int hi, .int ty, .int nc, .ref gO, .ref gP, .ref gT, .ref gC]))]) (l' := [(a, .inr (1, [.int lo, .int hi, .int ty, .int nc, .ref gO, .ref gP, .ref gT, .ref gC]))]) hn [0] rfl rfl) ?_
    show AW G mX1_allowsParameters (d + 2) 0 0 Q 13 [(0, .ref a), (1, .int p1), (2, .int p2), (3, .int p3)] [.int (if p2 = ((-1) : Int32) then 1 else (if p2 = (9 : Int32) then 1 else (if ((if p2 < 0 then 0 else (if ty ≤ p2 then 0 else 1)) : Int32) = 0 then 0 else 1)))] _ 0 0
    refine ax_if_eq (tgt := 24) dX1_allowsParameters_13 (by decide) (fun c2 => ?_) (fun c2 => ?_)
    · refine ax_iconst (v := 0) dX1_allowsParameters_24 (by decide) ?_
      exact ax_iret (st := []) dX1_allowsParameters_25 rfl (by repeat (first | rfl | split)) (by rw [hQ]; refine ⟨?_, ?_⟩ <;> (repeat rw [if_neg c1]) <;> (repeat rw [if_pos c2]) <;> (try rfl))
    · refine ax_aload_n dX1_allowsParameters_16 rfl ?_
      refine ax_iload_n dX1_allowsParameters_17 rfl ?_
      refine ax_callV (b := a) (av := [.int p3]) (rest := []) (mc' := 0) (ms' := 0) dX1_allowsParameters_18 rfl lkX1_37 (ax_w_get hn (i := 0) rfl) rfl (Nat.le_of_ble_eq_true rfl) (Nat.le_of_ble_eq_true rfl) (Nat.le_refl 0) (Nat.le_refl 0) (ax_eqh (ax_w_sub (l := [(a, .inr (1, [.int lo, .int hi, .int ty, .int nc, .ref gO, .ref gP, .ref gT, .ref gC]))]) (lc := [(a, .inr (1, [.int lo, .int hi, .int ty, .int nc, .ref gO, .ref gP, .ref gT, .ref gC]))]) hn [0] rfl).symm (ctX1_isParameter _ _ a lo hi ty nc gO gP gT gC p3 hn)) (fun E9 h9 q9 => by cases q9.1) (fun v9 h9 q9 => ?_)
      obtain ⟨e9, rfl⟩ := q9
      cases e9
      refine ax_eqh (ax_w_ov (l := [(a, .inr (1, [.int lo, .int hi, .int ty, .int nc, .ref gO, .ref gP, .ref gT, .ref gC]))]) (lc := [(a, .inr (1, [.int lo, .int hi, .int ty, .int nc, .ref gO, .ref gP, .ref gT, .ref gC]))]) (l' := [(a, .inr (1, [.int lo, .int hi, .int ty, .int nc, .ref gO, .ref gP, .ref gT, .ref gC]))]) hn [0] rfl rfl) ?_
      show AW G mX1_allowsParameters (d + 2) 0 0 Q 21 [(0, .ref a), (1, .int p1), (2, .int p2), (3, .int p3)] [.int (if p3 = ((-1) : Int32) then 1 else (if p3 = (9 : Int32) then 1 else (if ((if p3 < 0 then 0 else (if ty ≤ p3 then 0 else 1)) : Int32) = 0 then 0 else 1)))] _ 0 0
      refine ax_if_ne (tgt := 26) dX1_allowsParameters_21 (by decide) (fun c3 => ?_) (fun c3 => ?_)
      · refine ax_iload_n dX1_allowsParameters_26 rfl ?_
        refine ax_iconst (v := (-1)) dX1_allowsParameters_27 (by decide) ?_
        have J51 : AW G mX1_allowsParameters (d + 2) 0 0 Q 51 [(0, .ref a), (1, .int p1), (2, .int p2), (3, .int p3)] [.int (if p1 = ((-1) : Int32) then (if p2 = ((-1) : Int32) then (if p2 = ((-1) : Int32) then (if p3 = ((-1) : Int32) then 0 else 1) else 0) else 1) else (if p2 = ((-1) : Int32) then (if p3 = ((-1) : Int32) then 0 else 1) else 0))] (ax_w h [(a, .inr (1, [.int lo, .int hi, .int ty, .int nc, .ref gO, .ref gP, .ref gT, .ref gC]))]) 0 0 := by
          refine ax_istore dX1_allowsParameters_51 (by decide) ?_
          refine ax_sub (lv' := [(0, .ref a), (1, .int p1), (2, .int p2), (3, .int p3), (4, .int (if p1 = ((-1) : Int32) then (if p2 = ((-1) : Int32) then (if p2 = ((-1) : Int32) then (if p3 = ((-1) : Int32) then 0 else 1) else 0) else 1) else (if p2 = ((-1) : Int32) then (if p3 = ((-1) : Int32) then 0 else 1) else 0)))]) (fun _ z => z) ?_
          refine ax_iload dX1_allowsParameters_53 rfl ?_
          have J87 : AW G mX1_allowsParameters (d + 2) 0 0 Q 87 [(0, .ref a), (1, .int p1), (2, .int p2), (3, .int p3), (4, .int (if p1 = ((-1) : Int32) then (if p2 = ((-1) : Int32) then (if p2 = ((-1) : Int32) then (if p3 = ((-1) : Int32) then 0 else 1) else 0) else 1) else (if p2 = ((-1) : Int32) then (if p3 = ((-1) : Int32) then 0 else 1) else 0)))] [.int (if ((if p1 = ((-1) : Int32) then (if p2 = ((-1) : Int32) then (if p2 = ((-1) : Int32) then (if p3 = ((-1) : Int32) then 0 else 1) else 0) else 1) else (if p2 = ((-1) : Int32) then (if p3 = ((-1) : Int32) then 0 else 1) else 0)) : Int32) = 0 then (if ((if p1 < 0 then 0 else (if ty ≤ p1 then 0 else 1)) : Int32) = 0 then 1 else (if ((if p2 < 0 then 0 else (if ty ≤ p2 then 0 else 1)) : Int32) = 0 then 1 else (if ((if p3 < 0 then 0 else (if ty ≤ p3 then 0 else 1)) : Int32) = 0 then 1 else 0))) else 0)] (ax_w h [(a, .inr (1, [.int lo, .int hi, .int ty, .int nc, .ref gO, .ref gP, .ref gT, .ref gC]))]) 0 0 := by
            exact ax_iret (st := []) dX1_allowsParameters_87 rfl (by repeat (first | rfl | split)) (by rw [hQ]; refine ⟨?_, ?_⟩ <;> (repeat rw [if_neg c1]) <;> (repeat rw [if_neg c2]) <;> (repeat rw [if_neg c3]) <;> (try rfl))
          refine ax_if_ne (tgt := 86) dX1_allowsParameters_55 (by decide) (fun c10 => ?_) (fun c10 => ?_)
          · refine ax_iconst (v := 0) dX1_allowsParameters_86 (by decide) ?_
            repeat rw [if_neg c10] at J87
            first | exact J87 | contradiction
          · refine ax_aload_n dX1_allowsParameters_58 rfl ?_
            refine ax_iload_n dX1_allowsParameters_59 rfl ?_
            refine ax_callV (b := a) (av := [.int p1]) (rest := []) (mc' := 0) (ms' := 0) dX1_allowsParameters_60 rfl lkX1_41 (ax_w_get hn (i := 0) rfl) rfl (Nat.le_of_ble_eq_true rfl) (Nat.le_of_ble_eq_true rfl) (Nat.le_refl 0) (Nat.le_refl 0) (ax_eqh (ax_w_sub (l := [(a, .inr (1, [.int lo, .int hi, .int ty, .int nc, .ref gO, .ref gP, .ref gT, .ref gC]))]) (lc := [(a, .inr (1, [.int lo, .int hi, .int ty, .int nc, .ref gO, .ref gP, .ref gT, .ref gC]))]) hn [0] rfl).symm (ctX1_hasType _ _ a lo hi ty nc gO gP gT gC p1 hn)) (fun E9 h9 q9 => by cases q9.1) (fun v9 h9 q9 => ?_)
            obtain ⟨e9, rfl⟩ := q9
            cases e9
            refine ax_eqh (ax_w_ov (l := [(a, .inr (1, [.int lo, .int hi, .int ty, .int nc, .ref gO, .ref gP, .ref gT, .ref gC]))]) (lc := [(a, .inr (1, [.int lo, .int hi, .int ty, .int nc, .ref gO, .ref gP, .ref gT, .ref gC]))]) (l' := [(a, .inr (1, [.int lo, .int hi, .int ty, .int nc, .ref gO, .ref gP, .ref gT, .ref gC]))]) hn [0] rfl rfl) ?_
            show AW G mX1_allowsParameters (d + 2) 0 0 Q 63 [(0, .ref a), (1, .int p1), (2, .int p2), (3, .int p3), (4, .int (if p1 = ((-1) : Int32) then (if p2 = ((-1) : Int32) then (if p2 = ((-1) : Int32) then (if p3 = ((-1) : Int32) then 0 else 1) else 0) else 1) else (if p2 = ((-1) : Int32) then (if p3 = ((-1) : Int32) then 0 else 1) else 0)))] [.int (if p1 < 0 then 0 else (if ty ≤ p1 then 0 else 1))] _ 0 0
            refine ax_if_eq (tgt := 82) dX1_allowsParameters_63 (by decide) (fun c11 => ?_) (fun c11 => ?_)
            · refine ax_iconst (v := 1) dX1_allowsParameters_82 (by decide) ?_
              refine ax_goto (tgt := 87) dX1_allowsParameters_83 (by decide) ?_
              repeat rw [if_pos c10] at J87
              repeat rw [if_pos c11] at J87
              first | exact J87 | contradiction
            · refine ax_aload_n dX1_allowsParameters_66 rfl ?_
              refine ax_iload_n dX1_allowsParameters_67 rfl ?_
              refine ax_callV (b := a) (av := [.int p2]) (rest := []) (mc' := 0) (ms' := 0) dX1_allowsParameters_68 rfl lkX1_41 (ax_w_get hn (i := 0) rfl) rfl (Nat.le_of_ble_eq_true rfl) (Nat.le_of_ble_eq_true rfl) (Nat.le_refl 0) (Nat.le_refl 0) (ax_eqh (ax_w_sub (l := [(a, .inr (1, [.int lo, .int hi, .int ty, .int nc, .ref gO, .ref gP, .ref gT, .ref gC]))]) (lc := [(a, .inr (1, [.int lo, .int hi, .int ty, .int nc, .ref gO, .ref gP, .ref gT, .ref gC]))]) hn [0] rfl).symm (ctX1_hasType _ _ a lo hi ty nc gO gP gT gC p2 hn)) (fun E9 h9 q9 => by cases q9.1) (fun v9 h9 q9 => ?_)
              obtain ⟨e9, rfl⟩ := q9
              cases e9
              refine ax_eqh (ax_w_ov (l := [(a, .inr (1, [.int lo, .int hi, .int ty, .int nc, .ref gO, .ref gP, .ref gT, .ref gC]))]) (lc := [(a, .inr (1, [.int lo, .int hi, .int ty, .int nc, .ref gO, .ref gP, .ref gT, .ref gC]))]) (l' := [(a, .inr (1, [.int lo, .int hi, .int ty, .int nc, .ref gO, .ref gP, .ref gT, .ref gC]))]) hn [0] rfl rfl) ?_
              show AW G mX1_allowsParameters (d + 2) 0 0 Q 71 [(0, .ref a), (1, .int p1), (2, .int p2), (3, .int p3), (4, .int (if p1 = ((-1) : Int32) then (if p2 = ((-1) : Int32) then (if p2 = ((-1) : Int32) then (if p3 = ((-1) : Int32) then 0 else 1) else 0) else 1) else (if p2 = ((-1) : Int32) then (if p3 = ((-1) : Int32) then 0 else 1) else 0)))] [.int (if p2 < 0 then 0 else (if ty ≤ p2 then 0 else 1))] _ 0 0
              refine ax_if_eq (tgt := 82) dX1_allowsParameters_71 (by decide) (fun c12 => ?_) (fun c12 => ?_)
              · refine ax_iconst (v := 1) dX1_allowsParameters_82 (by decide) ?_
                refine ax_goto (tgt := 87) dX1_allowsParameters_83 (by decide) ?_
                repeat rw [if_pos c10] at J87
                repeat rw [if_neg c11] at J87
                repeat rw [if_pos c12] at J87
                first | exact J87 | contradiction
              · refine ax_aload_n dX1_allowsParameters_74 rfl ?_
                refine ax_iload_n dX1_allowsParameters_75 rfl ?_
                refine ax_callV (b := a) (av := [.int p3]) (rest := []) (mc' := 0) (ms' := 0) dX1_allowsParameters_76 rfl lkX1_41 (ax_w_get hn (i := 0) rfl) rfl (Nat.le_of_ble_eq_true rfl) (Nat.le_of_ble_eq_true rfl) (Nat.le_refl 0) (Nat.le_refl 0) (ax_eqh (ax_w_sub (l := [(a, .inr (1, [.int lo, .int hi, .int ty, .int nc, .ref gO, .ref gP, .ref gT, .ref gC]))]) (lc := [(a, .inr (1, [.int lo, .int hi, .int ty, .int nc, .ref gO, .ref gP, .ref gT, .ref gC]))]) hn [0] rfl).symm (ctX1_hasType _ _ a lo hi ty nc gO gP gT gC p3 hn)) (fun E9 h9 q9 => by cases q9.1) (fun v9 h9 q9 => ?_)
                obtain ⟨e9, rfl⟩ := q9
                cases e9
                refine ax_eqh (ax_w_ov (l := [(a, .inr (1, [.int lo, .int hi, .int ty, .int nc, .ref gO, .ref gP, .ref gT, .ref gC]))]) (lc := [(a, .inr (1, [.int lo, .int hi, .int ty, .int nc, .ref gO, .ref gP, .ref gT, .ref gC]))]) (l' := [(a, .inr (1, [.int lo, .int hi, .int ty, .int nc, .ref gO, .ref gP, .ref gT, .ref gC]))]) hn [0] rfl rfl) ?_
                show AW G mX1_allowsParameters (d + 2) 0 0 Q 79 [(0, .ref a), (1, .int p1), (2, .int p2), (3, .int p3), (4, .int (if p1 = ((-1) : Int32) then (if p2 = ((-1) : Int32) then (if p2 = ((-1) : Int32) then (if p3 = ((-1) : Int32) then 0 else 1) else 0) else 1) else (if p2 = ((-1) : Int32) then (if p3 = ((-1) : Int32) then 0 else 1) else 0)))] [.int (if p3 < 0 then 0 else (if ty ≤ p3 then 0 else 1))] _ 0 0
                refine ax_if_ne (tgt := 86) dX1_allowsParameters_79 (by decide) (fun c13 => ?_) (fun c13 => ?_)
                · refine ax_iconst (v := 0) dX1_allowsParameters_86 (by decide) ?_
                  repeat rw [if_pos c10] at J87
                  repeat rw [if_neg c11] at J87
                  repeat rw [if_neg c12] at J87
                  repeat rw [if_neg c13] at J87
                  first | exact J87 | contradiction
                · refine ax_iconst (v := 1) dX1_allowsParameters_82 (by decide) ?_
                  refine ax_goto (tgt := 87) dX1_allowsParameters_83 (by decide) ?_
                  repeat rw [if_pos c10] at J87
                  repeat rw [if_neg c11] at J87
                  repeat rw [if_neg c12] at J87
                  repeat rw [if_pos c13] at J87
                  first | exact J87 | contradiction
        refine ax_icmp_ne (tgt := 36) dX1_allowsParameters_28 (by decide) (fun c4 => ?_) (fun c4 => ?_)
        · refine ax_iload_n dX1_allowsParameters_36 rfl ?_
          refine ax_iconst (v := (-1)) dX1_allowsParameters_37 (by decide) ?_
          refine ax_icmp_ne (tgt := 50) dX1_allowsParameters_38 (by decide) (fun c8 => ?_) (fun c8 => ?_)
          · refine ax_iconst (v := 0) dX1_allowsParameters_50 (by decide) ?_
            repeat rw [if_neg c4] at J51
            repeat rw [if_neg c8] at J51
            first | exact J51 | contradiction
          · refine ax_iload_n dX1_allowsParameters_41 rfl ?_
            refine ax_iconst (v := (-1)) dX1_allowsParameters_42 (by decide) ?_
            refine ax_icmp_eq (tgt := 50) dX1_allowsParameters_43 (by decide) (fun c9 => ?_) (fun c9 => ?_)
            · refine ax_iconst (v := 0) dX1_allowsParameters_50 (by decide) ?_
              repeat rw [if_neg c4] at J51
              repeat rw [if_pos c8] at J51
              repeat rw [if_pos c9] at J51
              first | exact J51 | contradiction
            · refine ax_iconst (v := 1) dX1_allowsParameters_46 (by decide) ?_
              refine ax_goto (tgt := 51) dX1_allowsParameters_47 (by decide) ?_
              repeat rw [if_neg c4] at J51
              repeat rw [if_pos c8] at J51
              repeat rw [if_neg c9] at J51
              first | exact J51 | contradiction
        · refine ax_iload_n dX1_allowsParameters_31 rfl ?_
          refine ax_iconst (v := (-1)) dX1_allowsParameters_32 (by decide) ?_
          refine ax_icmp_ne (tgt := 46) dX1_allowsParameters_33 (by decide) (fun c5 => ?_) (fun c5 => ?_)
          · refine ax_iconst (v := 1) dX1_allowsParameters_46 (by decide) ?_
            refine ax_goto (tgt := 51) dX1_allowsParameters_47 (by decide) ?_
            repeat rw [if_pos c4] at J51
            repeat rw [if_neg c5] at J51
            first | exact J51 | contradiction
          · refine ax_iload_n dX1_allowsParameters_36 rfl ?_
            refine ax_iconst (v := (-1)) dX1_allowsParameters_37 (by decide) ?_
            refine ax_icmp_ne (tgt := 50) dX1_allowsParameters_38 (by decide) (fun c6 => ?_) (fun c6 => ?_)
            · refine ax_iconst (v := 0) dX1_allowsParameters_50 (by decide) ?_
              repeat rw [if_pos c4] at J51
              repeat rw [if_pos c5] at J51
              repeat rw [if_neg c6] at J51
              first | exact J51 | contradiction
            · refine ax_iload_n dX1_allowsParameters_41 rfl ?_
              refine ax_iconst (v := (-1)) dX1_allowsParameters_42 (by decide) ?_
              refine ax_icmp_eq (tgt := 50) dX1_allowsParameters_43 (by decide) (fun c7 => ?_) (fun c7 => ?_)
              · refine ax_iconst (v := 0) dX1_allowsParameters_50 (by decide) ?_
                repeat rw [if_pos c4] at J51
                repeat rw [if_pos c5] at J51
                repeat rw [if_pos c6] at J51
                repeat rw [if_pos c7] at J51
                first | exact J51 | contradiction
              · refine ax_iconst (v := 1) dX1_allowsParameters_46 (by decide) ?_
                refine ax_goto (tgt := 51) dX1_allowsParameters_47 (by decide) ?_
                repeat rw [if_pos c4] at J51
                repeat rw [if_pos c5] at J51
                repeat rw [if_pos c6] at J51
                repeat rw [if_neg c7] at J51
                first | exact J51 | contradiction
      · refine ax_iconst (v := 0) dX1_allowsParameters_24 (by decide) ?_
        exact ax_iret (st := []) dX1_allowsParameters_25 rfl (by repeat (first | rfl | split)) (by rw [hQ]; refine ⟨?_, ?_⟩ <;> (repeat rw [if_neg c1]) <;> (repeat rw [if_neg c2]) <;> (repeat rw [if_pos c3]) <;> (try rfl))
set_option maxRecDepth 100000 in
set_option maxHeartbeats 4000000 in
theorem ctX5_partsDiffer {G : ax_G} (d : Nat) (h : ax_H) (a n p : Nat) (V : Nat → Int32) (hn : ([a] : List Nat).Nodup) : AW G mX5_partsDiffer d 0 0 (fun r h1 => r = .inl (some (.int (((V 7) - 1) - (V 8)))) ∧ h1 = ax_w h [(a, .inr (5, [.int (V 0), .int (V 1), .int (V 2), .int (V 3), .ref n, .ref p, .int (V 6), .int (V 7), .int (V 8), .int (V 9), .int (V 10), .int (V 11), .int (V 12), .int (V 13), .int (V 14), .int (V 15)]))]) 0 [(0, .ref a)] [] (ax_w h [(a, .inr (5, [.int (V 0), .int (V 1), .int (V 2), .int (V 3), .ref n, .ref p, .int (V 6), .int (V 7), .int (V 8), .int (V 9), .int (V 10), .int (V 11), .int (V 12), .int (V 13), .int (V 14), .int (V 15)]))]) 0 0 := by
  obtain ⟨Q, hQ⟩ : ∃ Q : ax_P, Q = (fun r h1 => r = .inl (some (.int (((V 7) - 1) - (V 8)))) ∧ h1 = ax_w h [(a, .inr (5, [.int (V 0), .int (V 1), .int (V 2), .int (V 3), .ref n, .ref p, .int (V 6), .int (V 7), .int (V 8), .int (V 9), .int (V 10), .int (V 11), .int (V 12), .int (V 13), .int (V 14), .int (V 15)]))]) := ⟨_, rfl⟩
  rw [← hQ]
  refine ax_aload_n dX5_partsDiffer_0 rfl ?_
  refine ax_wget 0 hn rfl dX5_partsDiffer_1 fkX5_35 rfl ?_
  refine ax_iconst (v := 1) dX5_partsDiffer_4 (by decide) ?_
  refine ax_isub dX5_partsDiffer_5 ?_
  refine ax_aload_n dX5_partsDiffer_6 rfl ?_
  refine ax_wget 0 hn rfl dX5_partsDiffer_7 fkX5_38 rfl ?_
  refine ax_isub dX5_partsDiffer_10 ?_
  exact ax_iret (st := []) dX5_partsDiffer_11 rfl (by repeat (first | rfl | split)) (by rw [hQ]; refine ⟨?_, ?_⟩ <;> (try rfl))
set_option maxRecDepth 100000 in
set_option maxHeartbeats 4000000 in
theorem ctX5_codeLength {G : ax_G} (d : Nat) (h : ax_H) (a n p : Nat) (V : Nat → Int32) (hn : ([a] : List Nat).Nodup) : AW G mX5_codeLength d 0 0 (fun r h1 => r = .inl (some (.int ((V 6) + (V 10)))) ∧ h1 = ax_w h [(a, .inr (5, [.int (V 0), .int (V 1), .int (V 2), .int (V 3), .ref n, .ref p, .int (V 6), .int (V 7), .int (V 8), .int (V 9), .int (V 10), .int (V 11), .int (V 12), .int (V 13), .int (V 14), .int (V 15)]))]) 0 [(0, .ref a)] [] (ax_w h [(a, .inr (5, [.int (V 0), .int (V 1), .int (V 2), .int (V 3), .ref n, .ref p, .int (V 6), .int (V 7), .int (V 8), .int (V 9), .int (V 10), .int (V 11), .int (V 12), .int (V 13), .int (V 14), .int (V 15)]))]) 0 0 := by
  obtain ⟨Q, hQ⟩ : ∃ Q : ax_P, Q = (fun r h1 => r = .inl (some (.int ((V 6) + (V 10)))) ∧ h1 = ax_w h [(a, .inr (5, [.int (V 0), .int (V 1), .int (V 2), .int (V 3), .ref n, .ref p, .int (V 6), .int (V 7), .int (V 8), .int (V 9), .int (V 10), .int (V 11), .int (V 12), .int (V 13), .int (V 14), .int (V 15)]))]) := ⟨_, rfl⟩
  rw [← hQ]
  refine ax_aload_n dX5_codeLength_0 rfl ?_
  refine ax_wget 0 hn rfl dX5_codeLength_1 fkX5_32 rfl ?_
  refine ax_aload_n dX5_codeLength_4 rfl ?_
  refine ax_wget 0 hn rfl dX5_codeLength_5 fkX5_44 rfl ?_
  refine ax_iadd dX5_codeLength_8 ?_
  exact ax_iret (st := []) dX5_codeLength_9 rfl (by repeat (first | rfl | split)) (by rw [hQ]; refine ⟨?_, ?_⟩ <;> (try rfl))
set_option maxRecDepth 100000 in
set_option maxHeartbeats 4000000 in
theorem ctX5_fits {G : ax_G} (d : Nat) (h : ax_H) (a n p : Nat) (V : Nat → Int32) (k : Int32) (hb : narrow .boolean (.int (V 15)) = .int (V 15)) (hn : ([a] : List Nat).Nodup) : AW G mX5_fits (d + 1) 0 0 (fun r h1 => r = .inl (some (.int (if k = 1 then (V 15) else (if k = 2 then (if (V 9) < 0 then 1 else (if (V 12) < (V 9) then 0 else 1)) else (if k = 3 then (if (((V 7) - 1) - (V 8)) = 0 then 1 else 0) else (if k = 4 then (if (1 : Int32) < (((V 7) - 1) - (V 8)) then 0 else 1) else (if k = 5 then (if ((V 11) - (V 11) / 2 * 2) = 0 then 1 else 0) else 1))))))) ∧ h1 = ax_w h [(a, .inr (5, [.int (V 0), .int (V 1), .int (V 2), .int (V 3), .ref n, .ref p, .int (V 6), .int (V 7), .int (V 8), .int (V 9), .int (V 10), .int (V 11), .int (V 12), .int (V 13), .int (V 14), .int (V 15)]))]) 0 [(0, .ref a), (1, .int k)] [] (ax_w h [(a, .inr (5, [.int (V 0), .int (V 1), .int (V 2), .int (V 3), .ref n, .ref p, .int (V 6), .int (V 7), .int (V 8), .int (V 9), .int (V 10), .int (V 11), .int (V 12), .int (V 13), .int (V 14), .int (V 15)]))]) 0 0 := by
  obtain ⟨Q, hQ⟩ : ∃ Q : ax_P, Q = (fun r h1 => r = .inl (some (.int (if k = 1 then (V 15) else (if k = 2 then (if (V 9) < 0 then 1 else (if (V 12) < (V 9) then 0 else 1)) else (if k = 3 then (if (((V 7) - 1) - (V 8)) = 0 then 1 else 0) else (if k = 4 then (if (1 : Int32) < (((V 7) - 1) - (V 8)) then 0 else 1) else (if k = 5 then (if ((V 11) - (V 11) / 2 * 2) = 0 then 1 else 0) else 1))))))) ∧ h1 = ax_w h [(a, .inr (5, [.int (V 0), .int (V 1), .int (V 2), .int (V 3), .ref n, .ref p, .int (V 6), .int (V 7), .int (V 8), .int (V 9), .int (V 10), .int (V 11), .int (V 12), .int (V 13), .int (V 14), .int (V 15)]))]) := ⟨_, rfl⟩
  rw [← hQ]
  refine ax_iload_n dX5_fits_0 rfl ?_
  by_cases c6 : k = 1
  · subst c6
    refine ax_tabIn (tgt := 36) dX5_fits_1 (by decide) (by decide) rfl (by decide) ?_
    refine ax_aload_n dX5_fits_36 rfl ?_
    refine ax_wget 0 hn rfl dX5_fits_37 fkX5_59 rfl ?_
    exact ax_iret (st := []) dX5_fits_40 rfl (by repeat (first | rfl | exact hb | split)) (by rw [hQ]; refine ⟨?_, ?_⟩ <;> (try rfl))
  · skip
    by_cases c7 : k = 2
    · subst c7
      refine ax_tabIn (tgt := 41) dX5_fits_1 (by decide) (by decide) rfl (by decide) ?_
      refine ax_aload_n dX5_fits_41 rfl ?_
      refine ax_wget 0 hn rfl dX5_fits_42 fkX5_41 rfl ?_
      have J64 : AW G mX5_fits (d + 1) 0 0 Q 64 [(0, .ref a), (1, .int 2)] [.int (if (V 9) < 0 then 1 else (if (V 12) < (V 9) then 0 else 1))] (ax_w h [(a, .inr (5, [.int (V 0), .int (V 1), .int (V 2), .int (V 3), .ref n, .ref p, .int (V 6), .int (V 7), .int (V 8), .int (V 9), .int (V 10), .int (V 11), .int (V 12), .int (V 13), .int (V 14), .int (V 15)]))]) 0 0 := by
        exact ax_iret (st := []) dX5_fits_64 rfl (by repeat (first | rfl | exact hb | split)) (by rw [hQ]; refine ⟨?_, ?_⟩ <;> (repeat rw [if_neg c6]) <;> (try rfl))
      refine ax_if_lt (tgt := 59) dX5_fits_45 (by decide) (fun c1 => ?_) (fun c1 => ?_)
      · refine ax_iconst (v := 1) dX5_fits_59 (by decide) ?_
        refine ax_goto (tgt := 64) dX5_fits_60 (by decide) ?_
        repeat rw [if_pos c1] at J64
        first | exact J64 | contradiction
      · refine ax_aload_n dX5_fits_48 rfl ?_
        refine ax_wget 0 hn rfl dX5_fits_49 fkX5_41 rfl ?_
        refine ax_aload_n dX5_fits_52 rfl ?_
        refine ax_wget 0 hn rfl dX5_fits_53 fkX5_50 rfl ?_
        refine ax_icmp_gt (tgt := 63) dX5_fits_56 (by decide) (fun c2 => ?_) (fun c2 => ?_)
        · refine ax_iconst (v := 0) dX5_fits_63 (by decide) ?_
          repeat rw [if_neg c1] at J64
          repeat rw [if_pos c2] at J64
          first | exact J64 | contradiction
        · refine ax_iconst (v := 1) dX5_fits_59 (by decide) ?_
          refine ax_goto (tgt := 64) dX5_fits_60 (by decide) ?_
          repeat rw [if_neg c1] at J64
          repeat rw [if_neg c2] at J64
          first | exact J64 | contradiction
    · skip
      by_cases c8 : k = 3
      · subst c8
        refine ax_tabIn (tgt := 65) dX5_fits_1 (by decide) (by decide) rfl (by decide) ?_
        refine ax_aload_n dX5_fits_65 rfl ?_
        refine ax_callV (b := a) (av := []) (rest := []) (mc' := 0) (ms' := 0) dX5_fits_66 rfl lkX5_67 (ax_w_get hn (i := 0) rfl) rfl (Nat.le_of_ble_eq_true rfl) (Nat.le_of_ble_eq_true rfl) (Nat.le_refl 0) (Nat.le_refl 0) (ax_eqh (ax_w_sub (l := [(a, .inr (5, [.int (V 0), .int (V 1), .int (V 2), .int (V 3), .ref n, .ref p, .int (V 6), .int (V 7), .int (V 8), .int (V 9), .int (V 10), .int (V 11), .int (V 12), .int (V 13), .int (V 14), .int (V 15)]))]) (lc := [(a, .inr (5, [.int (V 0), .int (V 1), .int (V 2), .int (V 3), .ref n, .ref p, .int (V 6), .int (V 7), .int (V 8), .int (V 9), .int (V 10), .int (V 11), .int (V 12), .int (V 13), .int (V 14), .int (V 15)]))]) hn [0] rfl).symm (ctX5_partsDiffer _ _ a n p V hn)) (fun E9 h9 q9 => by cases q9.1) (fun v9 h9 q9 => ?_)
        obtain ⟨e9, rfl⟩ := q9
        cases e9
        refine ax_eqh (ax_w_ov (l := [(a, .inr (5, [.int (V 0), .int (V 1), .int (V 2), .int (V 3), .ref n, .ref p, .int (V 6), .int (V 7), .int (V 8), .int (V 9), .int (V 10), .int (V 11), .int (V 12), .int (V 13), .int (V 14), .int (V 15)]))]) (lc := [(a, .inr (5, [.int (V 0), .int (V 1), .int (V 2), .int (V 3), .ref n, .ref p, .int (V 6), .int (V 7), .int (V 8), .int (V 9), .int (V 10), .int (V 11), .int (V 12), .int (V 13), .int (V 14), .int (V 15)]))]) (l' := [(a, .inr (5, [.int (V 0), .int (V 1), .int (V 2), .int (V 3), .ref n, .ref p, .int (V 6), .int (V 7), .int (V 8), .int (V 9), .int (V 10), .int (V 11), .int (V 12), .int (V 13), .int (V 14), .int (V 15)]))]) hn [0] rfl rfl) ?_
        show AW G mX5_fits (d + 1) 0 0 Q 69 [(0, .ref a), (1, .int 3)] [.int (((V 7) - 1) - (V 8))] _ 0 0
        have J77 : AW G mX5_fits (d + 1) 0 0 Q 77 [(0, .ref a), (1, .int 3)] [.int (if (((V 7) - 1) - (V 8)) = 0 then 1 else 0)] (ax_w h [(a, .inr (5, [.int (V 0), .int (V 1), .int (V 2), .int (V 3), .ref n, .ref p, .int (V 6), .int (V 7), .int (V 8), .int (V 9), .int (V 10), .int (V 11), .int (V 12), .int (V 13), .int (V 14), .int (V 15)]))]) 0 0 := by
          exact ax_iret (st := []) dX5_fits_77 rfl (by repeat (first | rfl | exact hb | split)) (by rw [hQ]; refine ⟨?_, ?_⟩ <;> (repeat rw [if_neg c6]) <;> (repeat rw [if_neg c7]) <;> (try rfl))
        refine ax_if_ne (tgt := 76) dX5_fits_69 (by decide) (fun c3 => ?_) (fun c3 => ?_)
        · refine ax_iconst (v := 0) dX5_fits_76 (by decide) ?_
          repeat rw [if_neg c3] at J77
          first | exact J77 | contradiction
        · refine ax_iconst (v := 1) dX5_fits_72 (by decide) ?_
          refine ax_goto (tgt := 77) dX5_fits_73 (by decide) ?_
          repeat rw [if_pos c3] at J77
          first | exact J77 | contradiction
      · skip
        by_cases c9 : k = 4
        · subst c9
          refine ax_tabIn (tgt := 78) dX5_fits_1 (by decide) (by decide) rfl (by decide) ?_
          refine ax_aload_n dX5_fits_78 rfl ?_
          refine ax_callV (b := a) (av := []) (rest := []) (mc' := 0) (ms' := 0) dX5_fits_79 rfl lkX5_67 (ax_w_get hn (i := 0) rfl) rfl (Nat.le_of_ble_eq_true rfl) (Nat.le_of_ble_eq_true rfl) (Nat.le_refl 0) (Nat.le_refl 0) (ax_eqh (ax_w_sub (l := [(a, .inr (5, [.int (V 0), .int (V 1), .int (V 2), .int (V 3), .ref n, .ref p, .int (V 6), .int (V 7), .int (V 8), .int (V 9), .int (V 10), .int (V 11), .int (V 12), .int (V 13), .int (V 14), .int (V 15)]))]) (lc := [(a, .inr (5, [.int (V 0), .int (V 1), .int (V 2), .int (V 3), .ref n, .ref p, .int (V 6), .int (V 7), .int (V 8), .int (V 9), .int (V 10), .int (V 11), .int (V 12), .int (V 13), .int (V 14), .int (V 15)]))]) hn [0] rfl).symm (ctX5_partsDiffer _ _ a n p V hn)) (fun E9 h9 q9 => by cases q9.1) (fun v9 h9 q9 => ?_)
          obtain ⟨e9, rfl⟩ := q9
          cases e9
          refine ax_eqh (ax_w_ov (l := [(a, .inr (5, [.int (V 0), .int (V 1), .int (V 2), .int (V 3), .ref n, .ref p, .int (V 6), .int (V 7), .int (V 8), .int (V 9), .int (V 10), .int (V 11), .int (V 12), .int (V 13), .int (V 14), .int (V 15)]))]) (lc := [(a, .inr (5, [.int (V 0), .int (V 1), .int (V 2), .int (V 3), .ref n, .ref p, .int (V 6), .int (V 7), .int (V 8), .int (V 9), .int (V 10), .int (V 11), .int (V 12), .int (V 13), .int (V 14), .int (V 15)]))]) (l' := [(a, .inr (5, [.int (V 0), .int (V 1), .int (V 2), .int (V 3), .ref n, .ref p, .int (V 6), .int (V 7), .int (V 8), .int (V 9), .int (V 10), .int (V 11), .int (V 12), .int (V 13), .int (V 14), .int (V 15)]))]) hn [0] rfl rfl) ?_
          show AW G mX5_fits (d + 1) 0 0 Q 82 [(0, .ref a), (1, .int 4)] [.int (((V 7) - 1) - (V 8))] _ 0 0
          refine ax_iconst (v := 1) dX5_fits_82 (by decide) ?_
          have J91 : AW G mX5_fits (d + 1) 0 0 Q 91 [(0, .ref a), (1, .int 4)] [.int (if (1 : Int32) < (((V 7) - 1) - (V 8)) then 0 else 1)] (ax_w h [(a, .inr (5, [.int (V 0), .int (V 1), .int (V 2), .int (V 3), .ref n, .ref p, .int (V 6), .int (V 7), .int (V 8), .int (V 9), .int (V 10), .int (V 11), .int (V 12), .int (V 13), .int (V 14), .int (V 15)]))]) 0 0 := by
            exact ax_iret (st := []) dX5_fits_91 rfl (by repeat (first | rfl | exact hb | split)) (by rw [hQ]; refine ⟨?_, ?_⟩ <;> (repeat rw [if_neg c6]) <;> (repeat rw [if_neg c7]) <;> (repeat rw [if_neg c8]) <;> (try rfl))
          refine ax_icmp_gt (tgt := 90) dX5_fits_83 (by decide) (fun c4 => ?_) (fun c4 => ?_)
          · refine ax_iconst (v := 0) dX5_fits_90 (by decide) ?_
            repeat rw [if_pos c4] at J91
            first | exact J91 | contradiction
          · refine ax_iconst (v := 1) dX5_fits_86 (by decide) ?_
            refine ax_goto (tgt := 91) dX5_fits_87 (by decide) ?_
            repeat rw [if_neg c4] at J91
            first | exact J91 | contradiction
        · skip
          by_cases c10 : k = 5
          · subst c10
            refine ax_tabIn (tgt := 92) dX5_fits_1 (by decide) (by decide) rfl (by decide) ?_
            refine ax_aload_n dX5_fits_92 rfl ?_
            refine ax_wget 0 hn rfl dX5_fits_93 fkX5_47 rfl ?_
            refine ax_iconst (v := 2) dX5_fits_96 (by decide) ?_
            refine ax_irem dX5_fits_97 (by decide) ?_
            have J106 : AW G mX5_fits (d + 1) 0 0 Q 106 [(0, .ref a), (1, .int 5)] [.int (if ((V 11) - (V 11) / 2 * 2) = 0 then 1 else 0)] (ax_w h [(a, .inr (5, [.int (V 0), .int (V 1), .int (V 2), .int (V 3), .ref n, .ref p, .int (V 6), .int (V 7), .int (V 8), .int (V 9), .int (V 10), .int (V 11), .int (V 12), .int (V 13), .int (V 14), .int (V 15)]))]) 0 0 := by
              exact ax_iret (st := []) dX5_fits_106 rfl (by repeat (first | rfl | exact hb | split)) (by rw [hQ]; refine ⟨?_, ?_⟩ <;> (repeat rw [if_neg c6]) <;> (repeat rw [if_neg c7]) <;> (repeat rw [if_neg c8]) <;> (repeat rw [if_neg c9]) <;> (try rfl))
            refine ax_if_ne (tgt := 105) dX5_fits_98 (by decide) (fun c5 => ?_) (fun c5 => ?_)
            · refine ax_iconst (v := 0) dX5_fits_105 (by decide) ?_
              repeat rw [if_neg c5] at J106
              first | exact J106 | contradiction
            · refine ax_iconst (v := 1) dX5_fits_101 (by decide) ?_
              refine ax_goto (tgt := 106) dX5_fits_102 (by decide) ?_
              repeat rw [if_pos c5] at J106
              first | exact J106 | contradiction
          · skip
            refine ax_tabOut (tgt := 107) dX5_fits_1 (ax_out5 (lv_neT c6 (a := 1) (by decide)) (lv_neT c7 (a := 2) (by decide)) (lv_neT c8 (a := 3) (by decide)) (lv_neT c9 (a := 4) (by decide)) (lv_neT c10 (a := 5) (by decide))) (by decide) ?_
            refine ax_iconst (v := 1) dX5_fits_107 (by decide) ?_
            exact ax_iret (st := []) dX5_fits_108 rfl (by repeat (first | rfl | exact hb | split)) (by rw [hQ]; refine ⟨?_, ?_⟩ <;> (repeat rw [if_neg c6]) <;> (repeat rw [if_neg c7]) <;> (repeat rw [if_neg c8]) <;> (repeat rw [if_neg c9]) <;> (repeat rw [if_neg c10]) <;> (try rfl))
set_option maxRecDepth 100000 in
set_option maxHeartbeats 4000000 in
theorem ctX5_joinInts {G : ax_G} (d : Nat) (h : ax_H) (a n p : Nat) (V : Nat → Int32) (k1 k2 k3 : Int32) (hn : ([a] : List Nat).Nodup) : AW G mX5_joinInts d 0 0 (fun r h1 => r = .inl none ∧ h1 = ax_w h [(a, .inr (5, [.int (V 0), .int (V 1), .int (V 2), .int (V 3), .ref n, .ref p, .int (V 6), .int (V 7), .int (V 8), .int (V 9), .int (V 10), .int (V 11), .int (if (V 10) = 0 then k3 else (if (V 12) ≤ k3 then (V 12) else k3)), .int k2, .int (if (V 10) = 0 then k1 else (V 14)), .int (if (V 10) = 0 then (V 15) else (if (V 15) = 0 then 0 else (if k1 ≤ (V 13) then 0 else 1)))]))]) 0 [(0, .ref a), (1, .int k1), (2, .int k2), (3, .int k3)] [] (ax_w h [(a, .inr (5, [.int (V 0), .int (V 1), .int (V 2), .int (V 3), .ref n, .ref p, .int (V 6), .int (V 7), .int (V 8), .int (V 9), .int (V 10), .int (V 11), .int (V 12), .int (V 13), .int (V 14), .int (V 15)]))]) 0 0 := by
  obtain ⟨Q, hQ⟩ : ∃ Q : ax_P, Q = (fun r h1 => r = .inl none ∧ h1 = ax_w h [(a, .inr (5, [.int (V 0), .int (V 1), .int (V 2), .int (V 3), .ref n, .ref p, .int (V 6), .int (V 7), .int (V 8), .int (V 9), .int (V 10), .int (V 11), .int (if (V 10) = 0 then k3 else (if (V 12) ≤ k3 then (V 12) else k3)), .int k2, .int (if (V 10) = 0 then k1 else (V 14)), .int (if (V 10) = 0 then (V 15) else (if (V 15) = 0 then 0 else (if k1 ≤ (V 13) then 0 else 1)))]))]) := ⟨_, rfl⟩
  rw [← hQ]
  refine ax_aload_n dX5_joinInts_0 rfl ?_
  refine ax_wget 0 hn rfl dX5_joinInts_1 fkX5_44 rfl ?_
  have J64 : AW G mX5_joinInts d 0 0 Q 64 [(0, .ref a), (1, .int k1), (2, .int k2), (3, .int k3)] [] (ax_w h [(a, .inr (5, [.int (V 0), .int (V 1), .int (V 2), .int (V 3), .ref n, .ref p, .int (V 6), .int (V 7), .int (V 8), .int (V 9), .int (V 10), .int (V 11), .int (if (V 10) = 0 then k3 else (if (V 12) ≤ k3 then (V 12) else k3)), .int (V 13), .int (if (V 10) = 0 then k1 else (V 14)), .int (if (V 10) = 0 then (V 15) else (if (V 15) = 0 then 0 else (if k1 ≤ (V 13) then 0 else 1)))]))]) 0 0 := by
    refine ax_aload_n dX5_joinInts_64 rfl ?_
    refine ax_iload_n dX5_joinInts_65 rfl ?_
    refine ax_wput (l' := [(a, .inr (5, [.int (V 0), .int (V 1), .int (V 2), .int (V 3), .ref n, .ref p, .int (V 6), .int (V 7), .int (V 8), .int (V 9), .int (V 10), .int (V 11), .int (if (V 10) = 0 then k3 else (if (V 12) ≤ k3 then (V 12) else k3)), .int k2, .int (if (V 10) = 0 then k1 else (V 14)), .int (if (V 10) = 0 then (V 15) else (if (V 15) = 0 then 0 else (if k1 ≤ (V 13) then 0 else 1)))]))]) 0 hn rfl dX5_joinInts_66 fpX5_56 rfl rfl (Nat.le_of_ble_eq_true rfl) rfl ?_
    exact ax_vret (st := []) dX5_joinInts_69 rfl (by rw [hQ]; refine ⟨?_, ?_⟩ <;> (try rfl))
  refine ax_if_ne (tgt := 20) dX5_joinInts_4 (by decide) (fun c1 => ?_) (fun c1 => ?_)
  · refine ax_aload_n dX5_joinInts_20 rfl ?_
    refine ax_aload_n dX5_joinInts_21 rfl ?_
    refine ax_wget 0 hn rfl dX5_joinInts_22 fkX5_59 rfl ?_
    have J41 : AW G mX5_joinInts d 0 0 Q 41 [(0, .ref a), (1, .int k1), (2, .int k2), (3, .int k3)] [.int (if (V 15) = 0 then 0 else (if k1 ≤ (V 13) then 0 else 1)), .ref a] (ax_w h [(a, .inr (5, [.int (V 0), .int (V 1), .int (V 2), .int (V 3), .ref n, .ref p, .int (V 6), .int (V 7), .int (V 8), .int (V 9), .int (V 10), .int (V 11), .int (V 12), .int (V 13), .int (V 14), .int (V 15)]))]) 0 0 := by
      refine ax_wput (l' := [(a, .inr (5, [.int (V 0), .int (V 1), .int (V 2), .int (V 3), .ref n, .ref p, .int (V 6), .int (V 7), .int (V 8), .int (V 9), .int (V 10), .int (V 11), .int (V 12), .int (V 13), .int (V 14), .int (if (V 15) = 0 then 0 else (if k1 ≤ (V 13) then 0 else 1))]))]) 0 hn rfl dX5_joinInts_41 fpX5_59 (by repeat (first | rfl | split)) (by repeat (first | rfl | split)) (Nat.le_of_ble_eq_true rfl) rfl ?_
      refine ax_aload_n dX5_joinInts_44 rfl ?_
      refine ax_iload_n dX5_joinInts_45 rfl ?_
      refine ax_aload_n dX5_joinInts_46 rfl ?_
      refine ax_wget 0 hn rfl dX5_joinInts_47 fkX5_50 rfl ?_
      have J61 : AW G mX5_joinInts d 0 0 Q 61 [(0, .ref a), (1, .int k1), (2, .int k2), (3, .int k3)] [.int (if (V 12) ≤ k3 then (V 12) else k3), .ref a] (ax_w h [(a, .inr (5, [.int (V 0), .int (V 1), .int (V 2), .int (V 3), .ref n, .ref p, .int (V 6), .int (V 7), .int (V 8), .int (V 9), .int (V 10), .int (V 11), .int (V 12), .int (V 13), .int (V 14), .int (if (V 15) = 0 then 0 else (if k1 ≤ (V 13) then 0 else 1))]))]) 0 0 := by
        refine ax_wput (l' := [(a, .inr (5, [.int (V 0), .int (V 1), .int (V 2), .int (V 3), .ref n, .ref p, .int (V 6), .int (V 7), .int (V 8), .int (V 9), .int (V 10), .int (V 11), .int (if (V 12) ≤ k3 then (V 12) else k3), .int (V 13), .int (V 14), .int (if (V 15) = 0 then 0 else (if k1 ≤ (V 13) then 0 else 1))]))]) 0 hn rfl dX5_joinInts_61 fpX5_50 rfl rfl (Nat.le_of_ble_eq_true rfl) rfl ?_
        repeat rw [if_neg c1] at J64
        first | exact J64 | contradiction
      refine ax_icmp_ge (tgt := 57) dX5_joinInts_50 (by decide) (fun c4 => ?_) (fun c4 => ?_)
      · refine ax_aload_n dX5_joinInts_57 rfl ?_
        refine ax_wget 0 hn rfl dX5_joinInts_58 fkX5_50 rfl ?_
        repeat rw [if_pos c4] at J61
        first | exact J61 | contradiction
      · refine ax_iload_n dX5_joinInts_53 rfl ?_
        refine ax_goto (tgt := 61) dX5_joinInts_54 (by decide) ?_
        repeat rw [if_neg c4] at J61
        first | exact J61 | contradiction
    refine ax_if_eq (tgt := 40) dX5_joinInts_25 (by decide) (fun c2 => ?_) (fun c2 => ?_)
    · refine ax_iconst (v := 0) dX5_joinInts_40 (by decide) ?_
      repeat rw [if_pos c2] at J41
      first | exact J41 | contradiction
    · refine ax_aload_n dX5_joinInts_28 rfl ?_
      refine ax_wget 0 hn rfl dX5_joinInts_29 fkX5_56 rfl ?_
      refine ax_iload_n dX5_joinInts_32 rfl ?_
      refine ax_icmp_ge (tgt := 40) dX5_joinInts_33 (by decide) (fun c3 => ?_) (fun c3 => ?_)
      · refine ax_iconst (v := 0) dX5_joinInts_40 (by decide) ?_
        repeat rw [if_neg c2] at J41
        repeat rw [if_pos c3] at J41
        first | exact J41 | contradiction
      · refine ax_iconst (v := 1) dX5_joinInts_36 (by decide) ?_
        refine ax_goto (tgt := 41) dX5_joinInts_37 (by decide) ?_
        repeat rw [if_neg c2] at J41
        repeat rw [if_neg c3] at J41
        first | exact J41 | contradiction
  · refine ax_aload_n dX5_joinInts_7 rfl ?_
    refine ax_iload_n dX5_joinInts_8 rfl ?_
    refine ax_wput (l' := [(a, .inr (5, [.int (V 0), .int (V 1), .int (V 2), .int (V 3), .ref n, .ref p, .int (V 6), .int (V 7), .int (V 8), .int (V 9), .int (V 10), .int (V 11), .int (V 12), .int (V 13), .int k1, .int (V 15)]))]) 0 hn rfl dX5_joinInts_9 fpX5_53 rfl rfl (Nat.le_of_ble_eq_true rfl) rfl ?_
    refine ax_aload_n dX5_joinInts_12 rfl ?_
    refine ax_iload_n dX5_joinInts_13 rfl ?_
    refine ax_wput (l' := [(a, .inr (5, [.int (V 0), .int (V 1), .int (V 2), .int (V 3), .ref n, .ref p, .int (V 6), .int (V 7), .int (V 8), .int (V 9), .int (V 10), .int (V 11), .int k3, .int (V 13), .int k1, .int (V 15)]))]) 0 hn rfl dX5_joinInts_14 fpX5_50 rfl rfl (Nat.le_of_ble_eq_true rfl) rfl ?_
    refine ax_goto (tgt := 64) dX5_joinInts_17 (by decide) ?_
    repeat rw [if_pos c1] at J64
    first | exact J64 | contradiction
set_option maxRecDepth 100000 in
set_option maxHeartbeats 4000000 in
theorem ctX5_begin {G : ax_G} (d : Nat) (h : ax_H) (a n p : Nat) (V : Nat → Int32) (k1 k2 : Int32) (hn : ([a] : List Nat).Nodup) : AW G mX5_begin d 0 0 (fun r h1 => r = .inl none ∧ h1 = ax_w h [(a, .inr (5, [.int k1, .int (-1), .int k2, .int 0, .ref n, .ref p, .int 1, .int 1, .int 0, .int (-1), .int 0, .int 0, .int 0, .int 0, .int 0, .int 1]))]) 0 [(0, .ref a), (1, .int k1), (2, .int k2)] [] (ax_w h [(a, .inr (5, [.int (V 0), .int (V 1), .int (V 2), .int (V 3), .ref n, .ref p, .int (V 6), .int (V 7), .int (V 8), .int (V 9), .int (V 10), .int (V 11), .int (V 12), .int (V 13), .int (V 14), .int (V 15)]))]) 0 0 := by
  obtain ⟨Q, hQ⟩ : ∃ Q : ax_P, Q = (fun r h1 => r = .inl none ∧ h1 = ax_w h [(a, .inr (5, [.int k1, .int (-1), .int k2, .int 0, .ref n, .ref p, .int 1, .int 1, .int 0, .int (-1), .int 0, .int 0, .int 0, .int 0, .int 0, .int 1]))]) := ⟨_, rfl⟩
  rw [← hQ]
  refine ax_aload_n dX5_begin_0 rfl ?_
  refine ax_iload_n dX5_begin_1 rfl ?_
  refine ax_wput (l' := [(a, .inr (5, [.int k1, .int (V 1), .int (V 2), .int (V 3), .ref n, .ref p, .int (V 6), .int (V 7), .int (V 8), .int (V 9), .int (V 10), .int (V 11), .int (V 12), .int (V 13), .int (V 14), .int (V 15)]))]) 0 hn rfl dX5_begin_2 fpX5_19 rfl rfl (Nat.le_of_ble_eq_true rfl) rfl ?_
  refine ax_aload_n dX5_begin_5 rfl ?_
  refine ax_iconst (v := (-1)) dX5_begin_6 (by decide) ?_
  refine ax_wput (l' := [(a, .inr (5, [.int k1, .int (-1), .int (V 2), .int (V 3), .ref n, .ref p, .int (V 6), .int (V 7), .int (V 8), .int (V 9), .int (V 10), .int (V 11), .int (V 12), .int (V 13), .int (V 14), .int (V 15)]))]) 0 hn rfl dX5_begin_7 fpX5_23 rfl rfl (Nat.le_of_ble_eq_true rfl) rfl ?_
  refine ax_aload_n dX5_begin_10 rfl ?_
  refine ax_iload_n dX5_begin_11 rfl ?_
  refine ax_wput (l' := [(a, .inr (5, [.int k1, .int (-1), .int k2, .int (V 3), .ref n, .ref p, .int (V 6), .int (V 7), .int (V 8), .int (V 9), .int (V 10), .int (V 11), .int (V 12), .int (V 13), .int (V 14), .int (V 15)]))]) 0 hn rfl dX5_begin_12 fpX5_26 rfl rfl (Nat.le_of_ble_eq_true rfl) rfl ?_
  refine ax_aload_n dX5_begin_15 rfl ?_
  refine ax_iconst (v := 0) dX5_begin_16 (by decide) ?_
  refine ax_wput (l' := [(a, .inr (5, [.int k1, .int (-1), .int k2, .int 0, .ref n, .ref p, .int (V 6), .int (V 7), .int (V 8), .int (V 9), .int (V 10), .int (V 11), .int (V 12), .int (V 13), .int (V 14), .int (V 15)]))]) 0 hn rfl dX5_begin_17 fpX5_29 rfl rfl (Nat.le_of_ble_eq_true rfl) rfl ?_
  refine ax_aload_n dX5_begin_20 rfl ?_
  refine ax_iconst (v := 1) dX5_begin_21 (by decide) ?_
  refine ax_wput (l' := [(a, .inr (5, [.int k1, .int (-1), .int k2, .int 0, .ref n, .ref p, .int 1, .int (V 7), .int (V 8), .int (V 9), .int (V 10), .int (V 11), .int (V 12), .int (V 13), .int (V 14), .int (V 15)]))]) 0 hn rfl dX5_begin_22 fpX5_32 rfl rfl (Nat.le_of_ble_eq_true rfl) rfl ?_
  refine ax_aload_n dX5_begin_25 rfl ?_
  refine ax_iconst (v := 1) dX5_begin_26 (by decide) ?_
  refine ax_wput (l' := [(a, .inr (5, [.int k1, .int (-1), .int k2, .int 0, .ref n, .ref p, .int 1, .int 1, .int (V 8), .int (V 9), .int (V 10), .int (V 11), .int (V 12), .int (V 13), .int (V 14), .int (V 15)]))]) 0 hn rfl dX5_begin_27 fpX5_35 rfl rfl (Nat.le_of_ble_eq_true rfl) rfl ?_
  refine ax_aload_n dX5_begin_30 rfl ?_
  refine ax_iconst (v := 0) dX5_begin_31 (by decide) ?_
  refine ax_wput (l' := [(a, .inr (5, [.int k1, .int (-1), .int k2, .int 0, .ref n, .ref p, .int 1, .int 1, .int 0, .int (V 9), .int (V 10), .int (V 11), .int (V 12), .int (V 13), .int (V 14), .int (V 15)]))]) 0 hn rfl dX5_begin_32 fpX5_38 rfl rfl (Nat.le_of_ble_eq_true rfl) rfl ?_
  refine ax_aload_n dX5_begin_35 rfl ?_
  refine ax_iconst (v := (-1)) dX5_begin_36 (by decide) ?_
  refine ax_wput (l' := [(a, .inr (5, [.int k1, .int (-1), .int k2, .int 0, .ref n, .ref p, .int 1, .int 1, .int 0, .int (-1), .int (V 10), .int (V 11), .int (V 12), .int (V 13), .int (V 14), .int (V 15)]))]) 0 hn rfl dX5_begin_37 fpX5_41 rfl rfl (Nat.le_of_ble_eq_true rfl) rfl ?_
  refine ax_aload_n dX5_begin_40 rfl ?_
  refine ax_iconst (v := 0) dX5_begin_41 (by decide) ?_
  refine ax_wput (l' := [(a, .inr (5, [.int k1, .int (-1), .int k2, .int 0, .ref n, .ref p, .int 1, .int 1, .int 0, .int (-1), .int 0, .int (V 11), .int (V 12), .int (V 13), .int (V 14), .int (V 15)]))]) 0 hn rfl dX5_begin_42 fpX5_44 rfl rfl (Nat.le_of_ble_eq_true rfl) rfl ?_
  refine ax_aload_n dX5_begin_45 rfl ?_
  refine ax_iconst (v := 0) dX5_begin_46 (by decide) ?_
  refine ax_wput (l' := [(a, .inr (5, [.int k1, .int (-1), .int k2, .int 0, .ref n, .ref p, .int 1, .int 1, .int 0, .int (-1), .int 0, .int 0, .int (V 12), .int (V 13), .int (V 14), .int (V 15)]))]) 0 hn rfl dX5_begin_47 fpX5_47 rfl rfl (Nat.le_of_ble_eq_true rfl) rfl ?_
  refine ax_aload_n dX5_begin_50 rfl ?_
  refine ax_iconst (v := 0) dX5_begin_51 (by decide) ?_
  refine ax_wput (l' := [(a, .inr (5, [.int k1, .int (-1), .int k2, .int 0, .ref n, .ref p, .int 1, .int 1, .int 0, .int (-1), .int 0, .int 0, .int 0, .int (V 13), .int (V 14), .int (V 15)]))]) 0 hn rfl dX5_begin_52 fpX5_50 rfl rfl (Nat.le_of_ble_eq_true rfl) rfl ?_
  refine ax_aload_n dX5_begin_55 rfl ?_
  refine ax_iconst (v := 0) dX5_begin_56 (by decide) ?_
  refine ax_wput (l' := [(a, .inr (5, [.int k1, .int (-1), .int k2, .int 0, .ref n, .ref p, .int 1, .int 1, .int 0, .int (-1), .int 0, .int 0, .int 0, .int (V 13), .int 0, .int (V 15)]))]) 0 hn rfl dX5_begin_57 fpX5_53 rfl rfl (Nat.le_of_ble_eq_true rfl) rfl ?_
  refine ax_aload_n dX5_begin_60 rfl ?_
  refine ax_iconst (v := 0) dX5_begin_61 (by decide) ?_
  refine ax_wput (l' := [(a, .inr (5, [.int k1, .int (-1), .int k2, .int 0, .ref n, .ref p, .int 1, .int 1, .int 0, .int (-1), .int 0, .int 0, .int 0, .int 0, .int 0, .int (V 15)]))]) 0 hn rfl dX5_begin_62 fpX5_56 rfl rfl (Nat.le_of_ble_eq_true rfl) rfl ?_
  refine ax_aload_n dX5_begin_65 rfl ?_
  refine ax_iconst (v := 1) dX5_begin_66 (by decide) ?_
  refine ax_wput (l' := [(a, .inr (5, [.int k1, .int (-1), .int k2, .int 0, .ref n, .ref p, .int 1, .int 1, .int 0, .int (-1), .int 0, .int 0, .int 0, .int 0, .int 0, .int 1]))]) 0 hn rfl dX5_begin_67 fpX5_59 rfl rfl (Nat.le_of_ble_eq_true rfl) rfl ?_
  exact ax_vret (st := []) dX5_begin_70 rfl (by rw [hQ]; refine ⟨?_, ?_⟩ <;> (try rfl))
