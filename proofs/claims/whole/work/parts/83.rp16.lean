/-! ===== the reference: addConstructor, full, and before the check loop ===== -/
section RP16
variable {G : ax_G} {A : rw_Ad}
set_option maxRecDepth 100000 in
set_option maxHeartbeats 4000000 in
theorem ac_f3 (hA : rw_nd A) (d : Nat) (R : rw_S) (h : ax_H) {x : Nat} {N F i : Int32} {t a b c k : Int32} {Q : ax_P} (e4 : R.1 4 = nI 6) (hq : Q (.inl (some (.int 0))) (rw_O A (rw_setS R 0 3) h)) : AW G mX7_addConstructor (d + 48) 1 3 Q 183 [(0, .ref (A.1 0)), (1, .int t), (2, .int a), (3, .int b), (4, .int c), (5, .int k), (6, .ref x), (7, .int N), (8, .int F), (9, .int i)] [] (rw_O A R h) 1 3 := by
  refine ax_aload_n dX7_addConstructor_183 rfl ?_
  refine ax_get (v := .int (nI 6)) dX7_addConstructor_184 fkX7_80 (rw_g0 hA) (congrArg (fun z => some (Value.int z)) (e4)) ?_
  refine ax_bipush (v := 6) dX7_addConstructor_187 (by decide) ?_
  refine ax_icmp_ne (tgt := 198) dX7_addConstructor_189 (by decide) (fun z => absurd (by decide) z) (fun _ => ?_)
  refine ax_aload_n dX7_addConstructor_192 rfl ?_
  refine ax_iconst (v := 3) dX7_addConstructor_193 (by decide) ?_
  refine ax_callV (b := (A.1 0)) (av := [.int 3]) (rest := []) (mc' := 0) (ms' := 0) dX7_addConstructor_194 rfl lkX7_72 (rw_g0 hA) rfl (Nat.le_of_ble_eq_true rfl) (Nat.le_of_ble_eq_true rfl) (by omega) (by omega) (r_fail hA _ R h 3) (fun E9 h9 q9 => by cases q9.1) (fun v9 h9 q9 => ?_)
  obtain ⟨e9, rfl⟩ := q9
  cases e9
  show AW G mX7_addConstructor (d + 48) 1 3 _ 197 [(0, .ref (A.1 0)), (1, .int t), (2, .int a), (3, .int b), (4, .int c), (5, .int k), (6, .ref x), (7, .int N), (8, .int F), (9, .int i)] [.int 0] (rw_O A (rw_setS R 0 3) h) 1 3
  exact ax_iret (st := []) dX7_addConstructor_197 rfl rfl hq
set_option maxRecDepth 100000 in
set_option maxHeartbeats 4000000 in
theorem ac_37y (hA : rw_nd A) (d : Nat) (R : rw_S) (h : ax_H) {x : Nat} {t a b c k : Int32} {Q : ax_P} (hk : (0 : Int32) ≤ k ∧ k ≤ 5) (kk : AW G mX7_addConstructor (d + 48) 1 3 Q 52 [(0, .ref (A.1 0)), (1, .int t), (2, .int a), (3, .int b), (4, .int c), (5, .int k), (6, .ref x), (7, .int 0), (8, .int 1), (9, .int 0)] [] (rw_O A R h) 1 3) : AW G mX7_addConstructor (d + 48) 1 3 Q 37 [(0, .ref (A.1 0)), (1, .int t), (2, .int a), (3, .int b), (4, .int c), (5, .int k), (6, .ref x)] [] (rw_O A R h) 1 3 := by
  refine ax_iconst (v := 0) dX7_addConstructor_37 (by decide) ?_
  refine ax_istore dX7_addConstructor_38 (by decide) ?_
  refine ax_sub (lv' := [(0, .ref (A.1 0)), (1, .int t), (2, .int a), (3, .int b), (4, .int c), (5, .int k), (6, .ref x), (7, .int 0)]) (fun _ z => z) ?_
  refine ax_iload dX7_addConstructor_40 rfl ?_
  refine ax_iconst (v := 0) dX7_addConstructor_42 (by decide) ?_
  refine ax_iconst (v := 5) dX7_addConstructor_43 (by decide) ?_
  refine ax_callS (av := [.int k, .int 0, .int 5]) (rest := []) (mc' := 0) (ms' := 0) dX7_addConstructor_44 rfl lkX7_58 rfl (Nat.le_of_ble_eq_true rfl) (Nat.le_of_ble_eq_true rfl) (by omega) (by omega) (r_isIn _ _ k 0 5) (fun E9 h9 q9 => by cases q9.1) (fun v9 h9 q9 => ?_)
  obtain ⟨e9, rfl⟩ := q9
  cases e9
  rw [if_pos hk]
  show AW G mX7_addConstructor (d + 48) 1 3 _ 47 [(0, .ref (A.1 0)), (1, .int t), (2, .int a), (3, .int b), (4, .int c), (5, .int k), (6, .ref x), (7, .int 0)] [.int 1] (rw_O A R h) 1 3
  refine ax_istore dX7_addConstructor_47 (by decide) ?_
  refine ax_sub (lv' := [(0, .ref (A.1 0)), (1, .int t), (2, .int a), (3, .int b), (4, .int c), (5, .int k), (6, .ref x), (7, .int 0), (8, .int 1)]) (fun _ z => z) ?_
  refine ax_iconst (v := 0) dX7_addConstructor_49 (by decide) ?_
  refine ax_istore dX7_addConstructor_50 (by decide) ?_
  refine ax_sub (lv' := [(0, .ref (A.1 0)), (1, .int t), (2, .int a), (3, .int b), (4, .int c), (5, .int k), (6, .ref x), (7, .int 0), (8, .int 1), (9, .int 0)]) (fun _ z => z) ?_
  exact kk
set_option maxRecDepth 100000 in
set_option maxHeartbeats 4000000 in
theorem ac_37n (hA : rw_nd A) (d : Nat) (R : rw_S) (h : ax_H) {x : Nat} {t a b c k : Int32} {Q : ax_P} (hk : ¬ ((0 : Int32) ≤ k ∧ k ≤ 5)) (kk : AW G mX7_addConstructor (d + 48) 1 3 Q 52 [(0, .ref (A.1 0)), (1, .int t), (2, .int a), (3, .int b), (4, .int c), (5, .int k), (6, .ref x), (7, .int 0), (8, .int 0), (9, .int 0)] [] (rw_O A R h) 1 3) : AW G mX7_addConstructor (d + 48) 1 3 Q 37 [(0, .ref (A.1 0)), (1, .int t), (2, .int a), (3, .int b), (4, .int c), (5, .int k), (6, .ref x)] [] (rw_O A R h) 1 3 := by
  refine ax_iconst (v := 0) dX7_addConstructor_37 (by decide) ?_
  refine ax_istore dX7_addConstructor_38 (by decide) ?_
  refine ax_sub (lv' := [(0, .ref (A.1 0)), (1, .int t), (2, .int a), (3, .int b), (4, .int c), (5, .int k), (6, .ref x), (7, .int 0)]) (fun _ z => z) ?_
  refine ax_iload dX7_addConstructor_40 rfl ?_
  refine ax_iconst (v := 0) dX7_addConstructor_42 (by decide) ?_
  refine ax_iconst (v := 5) dX7_addConstructor_43 (by decide) ?_
  refine ax_callS (av := [.int k, .int 0, .int 5]) (rest := []) (mc' := 0) (ms' := 0) dX7_addConstructor_44 rfl lkX7_58 rfl (Nat.le_of_ble_eq_true rfl) (Nat.le_of_ble_eq_true rfl) (by omega) (by omega) (r_isIn _ _ k 0 5) (fun E9 h9 q9 => by cases q9.1) (fun v9 h9 q9 => ?_)
  obtain ⟨e9, rfl⟩ := q9
  cases e9
  rw [if_neg hk]
  show AW G mX7_addConstructor (d + 48) 1 3 _ 47 [(0, .ref (A.1 0)), (1, .int t), (2, .int a), (3, .int b), (4, .int c), (5, .int k), (6, .ref x), (7, .int 0)] [.int 0] (rw_O A R h) 1 3
  refine ax_istore dX7_addConstructor_47 (by decide) ?_
  refine ax_sub (lv' := [(0, .ref (A.1 0)), (1, .int t), (2, .int a), (3, .int b), (4, .int c), (5, .int k), (6, .ref x), (7, .int 0), (8, .int 0)]) (fun _ z => z) ?_
  refine ax_iconst (v := 0) dX7_addConstructor_49 (by decide) ?_
  refine ax_istore dX7_addConstructor_50 (by decide) ?_
  refine ax_sub (lv' := [(0, .ref (A.1 0)), (1, .int t), (2, .int a), (3, .int b), (4, .int c), (5, .int k), (6, .ref x), (7, .int 0), (8, .int 0), (9, .int 0)]) (fun _ z => z) ?_
  exact kk
end RP16
