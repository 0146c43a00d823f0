/-! ===== the reference: addConstructor, behind the check loop ===== -/
section RP15
variable {G : ax_G} {A : rw_Ad}
set_option maxRecDepth 100000 in
set_option maxHeartbeats 4000000 in
theorem ac_f2 (hA : rw_nd A) (d : Nat) (R : rw_S) (h : ax_H) {x : Nat} {t a b c k N F : Int32} {Q : ax_P} (hb : F = 0 ∨ N = 3) (hq : Q (.inl (some (.int 0))) (rw_O A (rw_setS R 0 2) h)) : AW G mX7_addConstructor (d + 48) 1 3 Q 52 [(0, .ref (A.1 0)), (1, .int t), (2, .int a), (3, .int b), (4, .int c), (5, .int k), (6, .ref x), (7, .int N), (8, .int F), (9, .int (nI 3))] [] (rw_O A R h) 1 3 := by
  by_cases h0 : F = 0
  · refine ax_iload dX7_addConstructor_52 rfl ?_
    refine ax_iconst (v := 3) dX7_addConstructor_54 (by decide) ?_
    refine ax_icmp_ge (tgt := 166) dX7_addConstructor_55 (by decide) (fun _ => ?_) (fun z => absurd (by decide) z)
    refine ax_iload dX7_addConstructor_166 rfl ?_
    refine ax_if_eq (tgt := 177) dX7_addConstructor_168 (by decide) (fun _ => ?_) (fun z => absurd h0 z)
    refine ax_aload_n dX7_addConstructor_177 rfl ?_
    refine ax_iconst (v := 2) dX7_addConstructor_178 (by decide) ?_
    refine ax_callV (b := (A.1 0)) (av := [.int 2]) (rest := []) (mc' := 0) (ms' := 0) dX7_addConstructor_179 rfl lkX7_72 (rw_g0 hA) rfl (Nat.le_of_ble_eq_true rfl) (Nat.le_of_ble_eq_true rfl) (by omega) (by omega) (r_fail hA _ R h 2) (fun E9 h9 q9 => by cases q9.1) (fun v9 h9 q9 => ?_)
    obtain ⟨e9, rfl⟩ := q9
    cases e9
    show AW G mX7_addConstructor (d + 48) 1 3 _ 182 [(0, .ref (A.1 0)), (1, .int t), (2, .int a), (3, .int b), (4, .int c), (5, .int k), (6, .ref x), (7, .int N), (8, .int F), (9, .int (nI 3))] [.int 0] (rw_O A (rw_setS R 0 2) h) 1 3
    exact ax_iret (st := []) dX7_addConstructor_182 rfl rfl hq
  · have hN : N = 3 := hb.resolve_left h0
    refine ax_iload dX7_addConstructor_52 rfl ?_
    refine ax_iconst (v := 3) dX7_addConstructor_54 (by decide) ?_
    refine ax_icmp_ge (tgt := 166) dX7_addConstructor_55 (by decide) (fun _ => ?_) (fun z => absurd (by decide) z)
    refine ax_iload dX7_addConstructor_166 rfl ?_
    refine ax_if_eq (tgt := 177) dX7_addConstructor_168 (by decide) (fun z => absurd z h0) (fun _ => ?_)
    refine ax_iload dX7_addConstructor_171 rfl ?_
    refine ax_iconst (v := 3) dX7_addConstructor_173 (by decide) ?_
    refine ax_icmp_ne (tgt := 183) dX7_addConstructor_174 (by decide) (fun z => absurd hN z) (fun _ => ?_)
    refine ax_aload_n dX7_addConstructor_177 rfl ?_
    refine ax_iconst (v := 2) dX7_addConstructor_178 (by decide) ?_
    refine ax_callV (b := (A.1 0)) (av := [.int 2]) (rest := []) (mc' := 0) (ms' := 0) dX7_addConstructor_179 rfl lkX7_72 (rw_g0 hA) rfl (Nat.le_of_ble_eq_true rfl) (Nat.le_of_ble_eq_true rfl) (by omega) (by omega) (r_fail hA _ R h 2) (fun E9 h9 q9 => by cases q9.1) (fun v9 h9 q9 => ?_)
    obtain ⟨e9, rfl⟩ := q9
    cases e9
    show AW G mX7_addConstructor (d + 48) 1 3 _ 182 [(0, .ref (A.1 0)), (1, .int t), (2, .int a), (3, .int b), (4, .int c), (5, .int k), (6, .ref x), (7, .int N), (8, .int F), (9, .int (nI 3))] [.int 0] (rw_O A (rw_setS R 0 2) h) 1 3
    exact ax_iret (st := []) dX7_addConstructor_182 rfl rfl hq
set_option maxRecDepth 100000 in
set_option maxHeartbeats 4000000 in
theorem ac_go (hA : rw_nd A) (d : Nat) (R : rw_S) (h : ax_H) {x : Nat} {t a b c k N F : Int32} {Q : ax_P} (hF : ¬ F = 0) (hN : ¬ N = 3) (kk : AW G mX7_addConstructor (d + 48) 1 3 Q 183 [(0, .ref (A.1 0)), (1, .int t), (2, .int a), (3, .int b), (4, .int c), (5, .int k), (6, .ref x), (7, .int N), (8, .int F), (9, .int (nI 3))] [] (rw_O A R h) 1 3) : AW G mX7_addConstructor (d + 48) 1 3 Q 52 [(0, .ref (A.1 0)), (1, .int t), (2, .int a), (3, .int b), (4, .int c), (5, .int k), (6, .ref x), (7, .int N), (8, .int F), (9, .int (nI 3))] [] (rw_O A R h) 1 3 := by
  refine ax_iload dX7_addConstructor_52 rfl ?_
  refine ax_iconst (v := 3) dX7_addConstructor_54 (by decide) ?_
  refine ax_icmp_ge (tgt := 166) dX7_addConstructor_55 (by decide) (fun _ => ?_) (fun z => absurd (by decide) z)
  refine ax_iload dX7_addConstructor_166 rfl ?_
  refine ax_if_eq (tgt := 177) dX7_addConstructor_168 (by decide) (fun z => absurd z hF) (fun _ => ?_)
  refine ax_iload dX7_addConstructor_171 rfl ?_
  refine ax_iconst (v := 3) dX7_addConstructor_173 (by decide) ?_
  refine ax_icmp_ne (tgt := 183) dX7_addConstructor_174 (by decide) (fun _ => ?_) (fun z => absurd z hN)
  exact kk
end RP15
