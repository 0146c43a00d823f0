/-! ===== the reference: reduce, rows ===== -/
theorem nI_dec (k : Nat) : nI k + -1 = nI k - 1 := by rw [Int32.sub_eq_add_neg]
section RP21
variable {G : ax_G} {A : rw_Ad}
set_option maxRecDepth 100000 in
set_option maxHeartbeats 4000000 in
theorem rx_fit (hA : rw_nd A) (d mc ms : Nat) (R : rw_S) (h : ax_H) {cn sn p mn : Nat} {t r w k : Nat} (ht : t < 4) (hr3 : r < 300) (hk3 : k < 1199) (hcn : cn ≤ mc) (hsn : sn ≤ ms) (h10 : R.1 10 = nI t) (hk : R.2.1 11 k = nI r) (hrow : R.2.1 9 (300 * t + r) = nI w) {fi : Int32} {P1 : rw_S → Prop} (htr : AW G mX7_isTrueOf (d + 47) 0 0 (fun r h1 => r = .inl (some (.int 1)) ∧ ∃ R', h1 = rw_O A R' h ∧ P1 R') 0 [(0, .ref (A.1 0)), (1, .int (nI w)), (2, .int (nI p))] [] (rw_O A R h) 0 0) {Q : ax_P} (kk : ∀ R', P1 R' → AW G mX7_reduce (d + 48) mc ms Q 63 [(0, .ref (A.1 0)), (1, .int (nI p)), (2, .int (nI mn)), (3, .int 1), (4, .int fi), (5, .int (nI k - 1))] [] (rw_O A R' h) cn sn) : AW G mX7_reduce (d + 48) mc ms Q 63 [(0, .ref (A.1 0)), (1, .int (nI p)), (2, .int (nI mn)), (3, .int 1), (4, .int fi), (5, .int (nI k))] [] (rw_O A R h) cn sn := by
  refine ax_iload dX7_reduce_63 rfl ?_
  refine ax_if_lt (tgt := 106) dX7_reduce_65 (by decide) (fun z => absurd z (nI_pos (by omega))) (fun _ => ?_)
  refine ax_aload_n dX7_reduce_68 rfl ?_
  refine ax_aload_n dX7_reduce_69 rfl ?_
  refine ax_aload_n dX7_reduce_70 rfl ?_
  refine ax_get (v := .int (nI t)) dX7_reduce_71 fkX7_26 (rw_g0 hA) (congrArg (fun z => some (Value.int z)) (h10)) ?_
  refine ax_aload_n dX7_reduce_74 rfl ?_
  refine ax_get (v := .ref (A.1 11)) dX7_reduce_75 fkX7_49 (rw_g0 hA) rfl ?_
  refine ax_iload dX7_reduce_78 rfl ?_
  refine ax_ialdv (x := (nI r)) dX7_reduce_80 (rw_g11 hA) (nI_in (by omega) (by decide)) (by rw [nI_clamp (by omega)]; exact hk) ?_
  refine ax_callV (b := (A.1 0)) (av := [.int (nI t), .int (nI r)]) (rest := [.ref (A.1 0)]) (mc' := 0) (ms' := 0) dX7_reduce_81 rfl lkX7_110 (rw_g0 hA) rfl (Nat.le_of_ble_eq_true rfl) (Nat.le_of_ble_eq_true rfl) (by omega) (by omega) (r_value hA _ R h (t := t) (k := r) ht hr3 hrow) (fun E9 h9 q9 => by cases q9.1) (fun v9 h9 q9 => ?_)
  obtain ⟨e9, rfl⟩ := q9
  cases e9
  show AW G mX7_reduce (d + 48) mc ms _ 84 [(0, .ref (A.1 0)), (1, .int (nI p)), (2, .int (nI mn)), (3, .int 1), (4, .int fi), (5, .int (nI k))] [.int (nI w), .ref (A.1 0)] (rw_O A R h) cn sn
  refine ax_iload_n dX7_reduce_84 rfl ?_
  refine ax_callV (b := (A.1 0)) (av := [.int (nI w), .int (nI p)]) (rest := []) (mc' := 0) (ms' := 0) dX7_reduce_85 rfl lkX7_146 (rw_g0 hA) rfl (Nat.le_of_ble_eq_true rfl) (Nat.le_of_ble_eq_true rfl) (by omega) (by omega) (htr) (fun E9 h9 q9 => by cases q9.1) (fun v9 h9 q9 => ?_)
  obtain ⟨e9, R', rfl, w1⟩ := q9
  cases e9
  show AW G mX7_reduce (d + 48) mc ms _ 88 [(0, .ref (A.1 0)), (1, .int (nI p)), (2, .int (nI mn)), (3, .int 1), (4, .int fi), (5, .int (nI k))] [.int 1] (rw_O A R' h) cn sn
  refine ax_if_ne (tgt := 100) dX7_reduce_88 (by decide) (fun _ => ?_) (fun z => absurd z (by decide))
  refine ax_iinc (v := (nI k - 1)) dX7_reduce_100 rfl (nI_dec k) (by decide) ?_
  refine ax_sub (lv' := [(0, .ref (A.1 0)), (1, .int (nI p)), (2, .int (nI mn)), (3, .int 1), (4, .int fi), (5, .int (nI k - 1))]) (fun _ z => z) ?_
  refine ax_goto (tgt := 63) dX7_reduce_103 (by decide) ?_
  exact kk _ w1
set_option maxRecDepth 100000 in
set_option maxHeartbeats 4000000 in
theorem rx_unf (hA : rw_nd A) (d mc ms : Nat) (R : rw_S) (h : ax_H) {cn sn p mn : Nat} {t r w k : Nat} (ht : t < 4) (hr3 : r < 300) (hk3 : k < 1199) (hcn : cn ≤ mc) (hsn : sn ≤ ms) (h10 : R.1 10 = nI t) (hk : R.2.1 11 k = nI r) (hrow : R.2.1 9 (300 * t + r) = nI w) {fi : Int32} {P1 : rw_S → Prop} (htr : AW G mX7_isTrueOf (d + 47) 0 0 (fun r h1 => r = .inl (some (.int 0)) ∧ ∃ R', h1 = rw_O A R' h ∧ P1 R') 0 [(0, .ref (A.1 0)), (1, .int (nI w)), (2, .int (nI p))] [] (rw_O A R h) 0 0) (hP1 : ∀ R', P1 R' → R'.2.1 11 k = nI r) {Q : ax_P} (kk : ∀ R', P1 R' → AW G mX7_reduce (d + 48) mc ms Q 63 [(0, .ref (A.1 0)), (1, .int (nI p)), (2, .int (nI mn)), (3, .int 1), (4, .int (nI r)), (5, .int (nI k - 1))] [] (rw_O A R' h) cn sn) : AW G mX7_reduce (d + 48) mc ms Q 63 [(0, .ref (A.1 0)), (1, .int (nI p)), (2, .int (nI mn)), (3, .int 1), (4, .int fi), (5, .int (nI k))] [] (rw_O A R h) cn sn := by
  refine ax_iload dX7_reduce_63 rfl ?_
  refine ax_if_lt (tgt := 106) dX7_reduce_65 (by decide) (fun z => absurd z (nI_pos (by omega))) (fun _ => ?_)
  refine ax_aload_n dX7_reduce_68 rfl ?_
  refine ax_aload_n dX7_reduce_69 rfl ?_
  refine ax_aload_n dX7_reduce_70 rfl ?_
  refine ax_get (v := .int (nI t)) dX7_reduce_71 fkX7_26 (rw_g0 hA) (congrArg (fun z => some (Value.int z)) (h10)) ?_
  refine ax_aload_n dX7_reduce_74 rfl ?_
  refine ax_get (v := .ref (A.1 11)) dX7_reduce_75 fkX7_49 (rw_g0 hA) rfl ?_
  refine ax_iload dX7_reduce_78 rfl ?_
  refine ax_ialdv (x := (nI r)) dX7_reduce_80 (rw_g11 hA) (nI_in (by omega) (by decide)) (by rw [nI_clamp (by omega)]; exact hk) ?_
  refine ax_callV (b := (A.1 0)) (av := [.int (nI t), .int (nI r)]) (rest := [.ref (A.1 0)]) (mc' := 0) (ms' := 0) dX7_reduce_81 rfl lkX7_110 (rw_g0 hA) rfl (Nat.le_of_ble_eq_true rfl) (Nat.le_of_ble_eq_true rfl) (by omega) (by omega) (r_value hA _ R h (t := t) (k := r) ht hr3 hrow) (fun E9 h9 q9 => by cases q9.1) (fun v9 h9 q9 => ?_)
  obtain ⟨e9, rfl⟩ := q9
  cases e9
  show AW G mX7_reduce (d + 48) mc ms _ 84 [(0, .ref (A.1 0)), (1, .int (nI p)), (2, .int (nI mn)), (3, .int 1), (4, .int fi), (5, .int (nI k))] [.int (nI w), .ref (A.1 0)] (rw_O A R h) cn sn
  refine ax_iload_n dX7_reduce_84 rfl ?_
  refine ax_callV (b := (A.1 0)) (av := [.int (nI w), .int (nI p)]) (rest := []) (mc' := 0) (ms' := 0) dX7_reduce_85 rfl lkX7_146 (rw_g0 hA) rfl (Nat.le_of_ble_eq_true rfl) (Nat.le_of_ble_eq_true rfl) (by omega) (by omega) (htr) (fun E9 h9 q9 => by cases q9.1) (fun v9 h9 q9 => ?_)
  obtain ⟨e9, R', rfl, w1⟩ := q9
  cases e9
  show AW G mX7_reduce (d + 48) mc ms _ 88 [(0, .ref (A.1 0)), (1, .int (nI p)), (2, .int (nI mn)), (3, .int 1), (4, .int fi), (5, .int (nI k))] [.int 0] (rw_O A R' h) cn sn
  refine ax_if_ne (tgt := 100) dX7_reduce_88 (by decide) (fun z => absurd rfl z) (fun _ => ?_)
  refine ax_aload_n dX7_reduce_91 rfl ?_
  refine ax_get (v := .ref (A.1 11)) dX7_reduce_92 fkX7_49 (rw_g0 hA) rfl ?_
  refine ax_iload dX7_reduce_95 rfl ?_
  refine ax_ialdv (x := (nI r)) dX7_reduce_97 (rw_g11 hA) (nI_in (by omega) (by decide)) (by rw [nI_clamp (by omega)]; exact hP1 R' w1) ?_
  refine ax_istore dX7_reduce_98 (by decide) ?_
  refine ax_sub (lv' := [(0, .ref (A.1 0)), (1, .int (nI p)), (2, .int (nI mn)), (3, .int 1), (4, .int (nI r)), (5, .int (nI k))]) (fun _ z => z) ?_
  refine ax_iinc (v := (nI k - 1)) dX7_reduce_100 rfl (nI_dec k) (by decide) ?_
  refine ax_sub (lv' := [(0, .ref (A.1 0)), (1, .int (nI p)), (2, .int (nI mn)), (3, .int 1), (4, .int (nI r)), (5, .int (nI k - 1))]) (fun _ z => z) ?_
  refine ax_goto (tgt := 63) dX7_reduce_103 (by decide) ?_
  exact kk _ w1
set_option maxRecDepth 100000 in
set_option maxHeartbeats 4000000 in
theorem rx_e0 (hA : rw_nd A) (d mc ms : Nat) (R : rw_S) (h : ax_H) {cn sn p mn : Nat} {Q : ax_P} (hq : Q (.inl (some (.int (nI mn)))) (rw_O A R h)) : AW G mX7_reduce (d + 48) mc ms Q 63 [(0, .ref (A.1 0)), (1, .int (nI p)), (2, .int (nI mn)), (3, .int 1), (4, .int (-1)), (5, .int (-1))] [] (rw_O A R h) cn sn := by
  refine ax_iload dX7_reduce_63 rfl ?_
  refine ax_if_lt (tgt := 106) dX7_reduce_65 (by decide) (fun _ => ?_) (fun z => absurd (by decide) z)
  refine ax_iload dX7_reduce_106 rfl ?_
  refine ax_iconst (v := (-1)) dX7_reduce_108 (by decide) ?_
  refine ax_icmp_eq (tgt := 116) dX7_reduce_109 (by decide) (fun _ => ?_) (fun z => absurd rfl z)
  refine ax_iconst (v := 0) dX7_reduce_116 (by decide) ?_
  refine ax_istore_n dX7_reduce_117 (by decide) ?_
  refine ax_sub (lv' := [(0, .ref (A.1 0)), (1, .int (nI p)), (2, .int (nI mn)), (3, .int 0), (4, .int (-1)), (5, .int (-1))]) (fun _ z => z) ?_
  refine ax_iload_n dX7_reduce_118 rfl ?_
  refine ax_if_ne (tgt := 125) dX7_reduce_119 (by decide) (fun z => absurd rfl z) (fun _ => ?_)
  refine ax_goto (tgt := 44) dX7_reduce_122 (by decide) ?_
  refine ax_iload_n dX7_reduce_44 rfl ?_
  refine ax_if_eq (tgt := 137) dX7_reduce_45 (by decide) (fun _ => ?_) (fun z => absurd rfl z)
  refine ax_iload_n dX7_reduce_137 rfl ?_
  exact ax_iret (st := []) dX7_reduce_138 rfl rfl hq
set_option maxRecDepth 100000 in
set_option maxHeartbeats 4000000 in
theorem rx_e1 (hA : rw_nd A) (d mc ms : Nat) (R : rw_S) (h : ax_H) {cn sn p mn : Nat} {r : Nat} (hr3 : r < 300) {Q : ax_P} (kk : AW G mX7_reduce (d + 48) mc ms Q 44 [(0, .ref (A.1 0)), (1, .int (nI p)), (2, .int (nI (mn + 1))), (3, .int 1)] [] (rw_O A (rw_setS R 11 (nI r)) h) cn sn) : AW G mX7_reduce (d + 48) mc ms Q 63 [(0, .ref (A.1 0)), (1, .int (nI p)), (2, .int (nI mn)), (3, .int 1), (4, .int (nI r)), (5, .int (-1))] [] (rw_O A R h) cn sn := by
  refine ax_iload dX7_reduce_63 rfl ?_
  refine ax_if_lt (tgt := 106) dX7_reduce_65 (by decide) (fun _ => ?_) (fun z => absurd (by decide) z)
  refine ax_iload dX7_reduce_106 rfl ?_
  refine ax_iconst (v := (-1)) dX7_reduce_108 (by decide) ?_
  refine ax_icmp_eq (tgt := 116) dX7_reduce_109 (by decide) (fun z => absurd z (nI_m1 (by omega))) (fun _ => ?_)
  refine ax_iconst (v := 1) dX7_reduce_112 (by decide) ?_
  refine ax_goto (tgt := 117) dX7_reduce_113 (by decide) ?_
  refine ax_istore_n dX7_reduce_117 (by decide) ?_
  refine ax_sub (lv' := [(0, .ref (A.1 0)), (1, .int (nI p)), (2, .int (nI mn)), (3, .int 1), (4, .int (nI r)), (5, .int (-1))]) (fun _ z => z) ?_
  refine ax_iload_n dX7_reduce_118 rfl ?_
  refine ax_if_ne (tgt := 125) dX7_reduce_119 (by decide) (fun _ => ?_) (fun z => absurd z (by decide))
  refine ax_aload_n dX7_reduce_125 rfl ?_
  refine ax_iload dX7_reduce_126 rfl ?_
  refine ax_put dX7_reduce_128 fpX7_149 (rw_g0 hA) rfl rfl (Nat.le_of_ble_eq_true rfl) ?_
  refine ax_eqh (rw_ps11 hA) ?_
  refine ax_iinc (v := (nI (mn + 1))) dX7_reduce_131 rfl (nI_1 mn) (by decide) ?_
  refine ax_sub (lv' := [(0, .ref (A.1 0)), (1, .int (nI p)), (2, .int (nI (mn + 1))), (3, .int 1), (4, .int (nI r)), (5, .int (-1))]) (fun _ z => z) ?_
  refine ax_goto (tgt := 44) dX7_reduce_134 (by decide) ?_
  exact ax_sub (fun q hq => List.mem_append_left [(4, Value.int (nI r)), (5, Value.int (-1))] hq) kk
set_option maxRecDepth 100000 in
set_option maxHeartbeats 4000000 in
theorem rx_b (hA : rw_nd A) (d mc ms : Nat) (R : rw_S) (h : ax_H) {cn sn p mn : Nat} {nc ns n : Nat} (hcn : cn + nc ≤ mc) (hsn : sn + ns ≤ ms) {P1 : rw_S → ax_H → Prop} (hP1 : ∀ R' h', P1 R' h' → R'.1 23 = nI n) (hfr : AW G mX7_findReductions (d + 47) nc ns (fun r h1 => r = .inl none ∧ ∃ R' h', h1 = rw_O A R' h' ∧ P1 R' h') 0 [(0, .ref (A.1 0))] [] (rw_O A R h) 0 0) {Q : ax_P} (kk : ∀ R' h', P1 R' h' → AW G mX7_reduce (d + 48) mc ms Q 63 [(0, .ref (A.1 0)), (1, .int (nI p)), (2, .int (nI mn)), (3, .int 1), (4, .int (-1)), (5, .int (nI n - 1))] [] (rw_O A R' h') (cn + nc) (sn + ns)) : AW G mX7_reduce (d + 48) mc ms Q 44 [(0, .ref (A.1 0)), (1, .int (nI p)), (2, .int (nI mn)), (3, .int 1)] [] (rw_O A R h) cn sn := by
  refine ax_iload_n dX7_reduce_44 rfl ?_
  refine ax_if_eq (tgt := 137) dX7_reduce_45 (by decide) (fun z => absurd z (by decide)) (fun _ => ?_)
  refine ax_aload_n dX7_reduce_48 rfl ?_
  refine ax_callV (b := (A.1 0)) (av := []) (rest := []) (mc' := nc) (ms' := ns) dX7_reduce_49 rfl lkX7_182 (rw_g0 hA) rfl (Nat.le_of_ble_eq_true rfl) (Nat.le_of_ble_eq_true rfl) (by omega) (by omega) (hfr) (fun E9 h9 q9 => by cases q9.1) (fun v9 h9 q9 => ?_)
  obtain ⟨e9, R', h', rfl, w1⟩ := q9
  cases e9
  show AW G mX7_reduce (d + 48) mc ms _ 52 [(0, .ref (A.1 0)), (1, .int (nI p)), (2, .int (nI mn)), (3, .int 1)] [] (rw_O A R' h') (cn + nc) (sn + ns)
  refine ax_iconst (v := (-1)) dX7_reduce_52 (by decide) ?_
  refine ax_istore dX7_reduce_53 (by decide) ?_
  refine ax_sub (lv' := [(0, .ref (A.1 0)), (1, .int (nI p)), (2, .int (nI mn)), (3, .int 1), (4, .int (-1))]) (fun _ z => z) ?_
  refine ax_aload_n dX7_reduce_55 rfl ?_
  refine ax_get (v := .int (nI n)) dX7_reduce_56 fkX7_175 (rw_g0 hA) (congrArg (fun z => some (Value.int z)) (hP1 R' h' w1)) ?_
  refine ax_iconst (v := 1) dX7_reduce_59 (by decide) ?_
  refine ax_isub dX7_reduce_60 ?_
  refine ax_istore dX7_reduce_61 (by decide) ?_
  refine ax_sub (lv' := [(0, .ref (A.1 0)), (1, .int (nI p)), (2, .int (nI mn)), (3, .int 1), (4, .int (-1)), (5, .int ((nI n) - 1))]) (fun _ z => z) ?_
  exact kk _ _ w1
end RP21
