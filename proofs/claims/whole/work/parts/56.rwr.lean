/-! ===== the reference: write, its rows ===== -/
section RWR
variable {G : ax_G} {A : rw_Ad}

theorem w_neg {a b : Nat} (h : a < b) (hb : b ≤ 40) : (nI a - nI b).toInt < 0 := by
  have key : ∀ b, b ≤ 40 → ∀ a, a < b → (nI a - nI b).toInt < 0 := by decide +kernel
  exact key b hb a h
set_option maxRecDepth 100000 in
set_option maxHeartbeats 4000000 in
theorem w_1 (hA : rw_nd A) (d mc ms : Nat) (R : rw_S) (h : ax_H) {cn sn : Nat} (hcn : cn ≤ mc) (hsn : sn ≤ ms) {c s n1 n2 n3 i j k lf rs a1 a2 a3 ra rb rz : Nat} {cf1 : Nat → Option Nat} (hc1 : rw_at A h a1 (.inl (4, n1, .inr (.inr (.inr (.inr cf1)))))) {cf2 : Nat → Option Nat} (hc2 : rw_at A h a2 (.inl (4, n2, .inr (.inr (.inr (.inr cf2)))))) {fa : Nat → Int32} {La : List Nat} (ha : rw_at A h ra (.inl (0, La.length, .inl fa)) ∧ ∀ i x, La[i]? = some x → fa i = nI x) (la : La.length ≤ 40) (xa : ∀ a ∈ La, a ≤ 105) (hi1 : i < n1) (hn1 : n1 ≤ 300) (hn2 : n2 ≤ 300) (hri : cf1 i = some ra) (hs7 : s ≤ 7) (hlf : lf + ci_n La = s) {Q : ax_P} (kk : AW G mX7_write (d + 1) mc ms Q 102 [(0, .ref (A.1 0)), (1, .int (nI c)), (2, .int (nI (s + 1))), (3, .ref a1), (4, .ref a2), (5, .ref a3), (6, .ref a1), (7, .int (nI n1)), (8, .int (nI i)), (9, .ref ra), (10, .int (nI lf)), (11, .ref a2), (12, .int (nI n2)), (13, .int (nI 0))] [] (rw_O A R h) cn sn) : AW G mX7_write (d + 1) mc ms Q 65 [(0, .ref (A.1 0)), (1, .int (nI c)), (2, .int (nI (s + 1))), (3, .ref a1), (4, .ref a2), (5, .ref a3), (6, .ref a1), (7, .int (nI n1)), (8, .int (nI i))] [] (rw_O A R h) cn sn := by
  refine ax_iload dX7_write_65 rfl ?_
  refine ax_iload dX7_write_67 rfl ?_
  refine ax_icmp_ge (tgt := 418) dX7_write_69 (by decide) (fun z => absurd z (il_nle n1 i hi1)) (fun _ => ?_)
  refine ax_aload dX7_write_72 rfl ?_
  refine ax_iload dX7_write_74 rfl ?_
  refine ax_raald dX7_write_76 (rw_rd hc1) (nI_in hi1 (by omega)) (w := ra) (by rw [nI_clamp (by omega)]; exact hri) ?_
  refine ax_astore dX7_write_77 (by decide) ?_
  refine ax_sub (lv' := [(0, .ref (A.1 0)), (1, .int (nI c)), (2, .int (nI (s + 1))), (3, .ref a1), (4, .ref a2), (5, .ref a3), (6, .ref a1), (7, .int (nI n1)), (8, .int (nI i)), (9, .ref ra)]) (fun _ z => z) ?_
  refine ax_iload_n dX7_write_79 rfl ?_
  refine ax_iconst (v := 1) dX7_write_80 (by decide) ?_
  refine ax_isub dX7_write_81 ?_
  refine ax_top (y := (nI s)) (nI_pred s) ?_
  refine ax_aload dX7_write_82 rfl ?_
  refine ax_callS (av := [.ref ra]) (rest := [.int (nI s)]) (mc' := 0) (ms' := 0) dX7_write_84 rfl lkX7_117 rfl (Nat.le_of_ble_eq_true rfl) (Nat.le_of_ble_eq_true rfl) (by omega) (by omega) (r_consIn _ _ (rw_rd ha.1) (by omega) ha.2 xa) (fun E9 h9 q9 => by cases q9.1) (fun v9 h9 q9 => ?_)
  obtain ⟨e9, rfl⟩ := q9
  cases e9
  show AW G mX7_write (d + 1) mc ms _ 87 [(0, .ref (A.1 0)), (1, .int (nI c)), (2, .int (nI (s + 1))), (3, .ref a1), (4, .ref a2), (5, .ref a3), (6, .ref a1), (7, .int (nI n1)), (8, .int (nI i)), (9, .ref ra)] [.int (nI (ci_n La)), .int (nI s)] (rw_O A R h) cn sn
  refine ax_isub dX7_write_87 ?_
  refine ax_top (y := (nI lf)) (by rw [pk_sub (by omega)]; congr 1; omega) ?_
  refine ax_istore dX7_write_88 (by decide) ?_
  refine ax_sub (lv' := [(0, .ref (A.1 0)), (1, .int (nI c)), (2, .int (nI (s + 1))), (3, .ref a1), (4, .ref a2), (5, .ref a3), (6, .ref a1), (7, .int (nI n1)), (8, .int (nI i)), (9, .ref ra), (10, .int (nI lf))]) (fun _ z => z) ?_
  refine ax_aload dX7_write_90 rfl ?_
  refine ax_astore dX7_write_92 (by decide) ?_
  refine ax_sub (lv' := [(0, .ref (A.1 0)), (1, .int (nI c)), (2, .int (nI (s + 1))), (3, .ref a1), (4, .ref a2), (5, .ref a3), (6, .ref a1), (7, .int (nI n1)), (8, .int (nI i)), (9, .ref ra), (10, .int (nI lf)), (11, .ref a2)]) (fun _ z => z) ?_
  refine ax_aload dX7_write_94 rfl ?_
  refine ax_alen (n := n2) dX7_write_96 (rw_rd hc2) (by decide) ?_
  refine ax_istore dX7_write_97 (by decide) ?_
  refine ax_sub (lv' := [(0, .ref (A.1 0)), (1, .int (nI c)), (2, .int (nI (s + 1))), (3, .ref a1), (4, .ref a2), (5, .ref a3), (6, .ref a1), (7, .int (nI n1)), (8, .int (nI i)), (9, .ref ra), (10, .int (nI lf)), (11, .ref a2), (12, .int (nI n2))]) (fun _ z => z) ?_
  refine ax_iconst (v := 0) dX7_write_99 (by decide) ?_
  refine ax_istore dX7_write_100 (by decide) ?_
  refine ax_sub (lv' := [(0, .ref (A.1 0)), (1, .int (nI c)), (2, .int (nI (s + 1))), (3, .ref a1), (4, .ref a2), (5, .ref a3), (6, .ref a1), (7, .int (nI n1)), (8, .int (nI i)), (9, .ref ra), (10, .int (nI lf)), (11, .ref a2), (12, .int (nI n2)), (13, .int 0)]) (fun _ z => z) ?_
  exact kk
theorem w_1e (hA : rw_nd A) (d mc ms : Nat) (R : rw_S) (h : ax_H) {cn sn : Nat} (hcn : cn ≤ mc) (hsn : sn ≤ ms) {c s n1 n2 n3 i j k lf rs a1 a2 a3 ra rb rz : Nat} (hn1 : n1 ≤ 300) {Q : ax_P} (hq : Q (.inl (some (.int 1))) (rw_O A R h)) : AW G mX7_write (d + 1) mc ms Q 65 [(0, .ref (A.1 0)), (1, .int (nI c)), (2, .int (nI (s + 1))), (3, .ref a1), (4, .ref a2), (5, .ref a3), (6, .ref a1), (7, .int (nI n1)), (8, .int (nI n1))] [] (rw_O A R h) cn sn := by
  refine ax_iload dX7_write_65 rfl ?_
  refine ax_iload dX7_write_67 rfl ?_
  refine ax_icmp_ge (tgt := 418) dX7_write_69 (by decide) (fun _ => ?_) (fun z => absurd (il_le n1 n1 (Nat.le_refl _)) z)
  refine ax_iconst (v := 1) dX7_write_418 (by decide) ?_
  exact ax_iret (st := []) dX7_write_419 rfl rfl hq
theorem w_2e (hA : rw_nd A) (d mc ms : Nat) (R : rw_S) (h : ax_H) {cn sn : Nat} (hcn : cn ≤ mc) (hsn : sn ≤ ms) {c s n1 n2 n3 i j k lf rs a1 a2 a3 ra rb rz : Nat} (hn2 : n2 ≤ 300) {Q : ax_P} (kk : AW G mX7_write (d + 1) mc ms Q 65 [(0, .ref (A.1 0)), (1, .int (nI c)), (2, .int (nI (s + 1))), (3, .ref a1), (4, .ref a2), (5, .ref a3), (6, .ref a1), (7, .int (nI n1)), (8, .int (nI (i + 1)))] [] (rw_O A R h) cn sn) : AW G mX7_write (d + 1) mc ms Q 102 [(0, .ref (A.1 0)), (1, .int (nI c)), (2, .int (nI (s + 1))), (3, .ref a1), (4, .ref a2), (5, .ref a3), (6, .ref a1), (7, .int (nI n1)), (8, .int (nI i)), (9, .ref ra), (10, .int (nI lf)), (11, .ref a2), (12, .int (nI n2)), (13, .int (nI n2))] [] (rw_O A R h) cn sn := by
  refine ax_iload dX7_write_102 rfl ?_
  refine ax_iload dX7_write_104 rfl ?_
  refine ax_icmp_ge (tgt := 412) dX7_write_106 (by decide) (fun _ => ?_) (fun z => absurd (il_le n2 n2 (Nat.le_refl _)) z)
  refine ax_iinc (v := (nI (i + 1))) dX7_write_412 rfl (nI_1 i) (by decide) ?_
  refine ax_sub (lv' := [(0, .ref (A.1 0)), (1, .int (nI c)), (2, .int (nI (s + 1))), (3, .ref a1), (4, .ref a2), (5, .ref a3), (6, .ref a1), (7, .int (nI n1)), (8, .int (nI (i + 1))), (9, .ref ra), (10, .int (nI lf)), (11, .ref a2), (12, .int (nI n2)), (13, .int (nI n2))]) (fun _ z => z) ?_
  refine ax_goto (tgt := 65) dX7_write_415 (by decide) ?_
  exact ax_sub (fun q hq => List.mem_append_left [(9, .ref ra), (10, .int (nI lf)), (11, .ref a2), (12, .int (nI n2)), (13, .int (nI n2))] hq) kk
theorem w_2n (hA : rw_nd A) (d mc ms : Nat) (R : rw_S) (h : ax_H) {cn sn : Nat} (hcn : cn ≤ mc) (hsn : sn ≤ ms) {c s n1 n2 n3 i j k lf rs a1 a2 a3 ra rb rz : Nat} {cf2 : Nat → Option Nat} (hc2 : rw_at A h a2 (.inl (4, n2, .inr (.inr (.inr (.inr cf2)))))) {fb : Nat → Int32} {Lb : List Nat} (hb : rw_at A h rb (.inl (0, Lb.length, .inl fb)) ∧ ∀ i x, Lb[i]? = some x → fb i = nI x) (lb : Lb.length ≤ 40) (xb : ∀ a ∈ Lb, a ≤ 105) (hj : j < n2) (hn2 : n2 ≤ 300) (hrj : cf2 j = some rb) (hs7 : s ≤ 7) (hlf : lf ≤ s) (hlt : lf < ci_n Lb) (hle : ci_n Lb ≤ 40) {Q : ax_P} (kk : AW G mX7_write (d + 1) mc ms Q 102 [(0, .ref (A.1 0)), (1, .int (nI c)), (2, .int (nI (s + 1))), (3, .ref a1), (4, .ref a2), (5, .ref a3), (6, .ref a1), (7, .int (nI n1)), (8, .int (nI i)), (9, .ref ra), (10, .int (nI lf)), (11, .ref a2), (12, .int (nI n2)), (13, .int (nI (j + 1)))] [] (rw_O A R h) cn sn) : AW G mX7_write (d + 1) mc ms Q 102 [(0, .ref (A.1 0)), (1, .int (nI c)), (2, .int (nI (s + 1))), (3, .ref a1), (4, .ref a2), (5, .ref a3), (6, .ref a1), (7, .int (nI n1)), (8, .int (nI i)), (9, .ref ra), (10, .int (nI lf)), (11, .ref a2), (12, .int (nI n2)), (13, .int (nI j))] [] (rw_O A R h) cn sn := by
  have hneg : nI lf - nI (ci_n Lb) < 0 := by
    rw [Int32.lt_iff_toInt_lt, show (0 : Int32).toInt = 0 by decide]
    have := w_neg (a := lf) (b := ci_n Lb) hlt hle
    exact this
  refine ax_iload dX7_write_102 rfl ?_
  refine ax_iload dX7_write_104 rfl ?_
  refine ax_icmp_ge (tgt := 412) dX7_write_106 (by decide) (fun z => absurd z (il_nle n2 j hj)) (fun _ => ?_)
  refine ax_aload dX7_write_109 rfl ?_
  refine ax_iload dX7_write_111 rfl ?_
  refine ax_raald dX7_write_113 (rw_rd hc2) (nI_in hj (by omega)) (w := rb) (by rw [nI_clamp (by omega)]; exact hrj) ?_
  refine ax_astore dX7_write_114 (by decide) ?_
  refine ax_sub (lv' := [(0, .ref (A.1 0)), (1, .int (nI c)), (2, .int (nI (s + 1))), (3, .ref a1), (4, .ref a2), (5, .ref a3), (6, .ref a1), (7, .int (nI n1)), (8, .int (nI i)), (9, .ref ra), (10, .int (nI lf)), (11, .ref a2), (12, .int (nI n2)), (13, .int (nI j)), (14, .ref rb)]) (fun _ z => z) ?_
  refine ax_iload dX7_write_116 rfl ?_
  refine ax_aload dX7_write_118 rfl ?_
  refine ax_callS (av := [.ref rb]) (rest := [.int (nI lf)]) (mc' := 0) (ms' := 0) dX7_write_120 rfl lkX7_117 rfl (Nat.le_of_ble_eq_true rfl) (Nat.le_of_ble_eq_true rfl) (by omega) (by omega) (r_consIn _ _ (rw_rd hb.1) (by omega) hb.2 xb) (fun E9 h9 q9 => by cases q9.1) (fun v9 h9 q9 => ?_)
  obtain ⟨e9, rfl⟩ := q9
  cases e9
  show AW G mX7_write (d + 1) mc ms _ 123 [(0, .ref (A.1 0)), (1, .int (nI c)), (2, .int (nI (s + 1))), (3, .ref a1), (4, .ref a2), (5, .ref a3), (6, .ref a1), (7, .int (nI n1)), (8, .int (nI i)), (9, .ref ra), (10, .int (nI lf)), (11, .ref a2), (12, .int (nI n2)), (13, .int (nI j)), (14, .ref rb)] [.int (nI (ci_n Lb)), .int (nI lf)] (rw_O A R h) cn sn
  refine ax_isub dX7_write_123 ?_
  refine ax_istore dX7_write_124 (by decide) ?_
  refine ax_sub (lv' := [(0, .ref (A.1 0)), (1, .int (nI c)), (2, .int (nI (s + 1))), (3, .ref a1), (4, .ref a2), (5, .ref a3), (6, .ref a1), (7, .int (nI n1)), (8, .int (nI i)), (9, .ref ra), (10, .int (nI lf)), (11, .ref a2), (12, .int (nI n2)), (13, .int (nI j)), (14, .ref rb), (15, .int ((nI lf) - (nI (ci_n Lb))))]) (fun _ z => z) ?_
  refine ax_iload dX7_write_126 rfl ?_
  refine ax_if_ge (tgt := 134) dX7_write_128 (by decide) (fun z => absurd z (i_lt_not hneg)) (fun _ => ?_)
  refine ax_goto (tgt := 406) dX7_write_131 (by decide) ?_
  refine ax_iinc (v := (nI (j + 1))) dX7_write_406 rfl (nI_1 j) (by decide) ?_
  refine ax_sub (lv' := [(0, .ref (A.1 0)), (1, .int (nI c)), (2, .int (nI (s + 1))), (3, .ref a1), (4, .ref a2), (5, .ref a3), (6, .ref a1), (7, .int (nI n1)), (8, .int (nI i)), (9, .ref ra), (10, .int (nI lf)), (11, .ref a2), (12, .int (nI n2)), (13, .int (nI (j + 1))), (14, .ref rb), (15, .int ((nI lf) - (nI (ci_n Lb))))]) (fun _ z => z) ?_
  refine ax_goto (tgt := 102) dX7_write_409 (by decide) ?_
  exact ax_sub (fun q hq => List.mem_append_left [(14, .ref rb), (15, .int (nI lf - nI (ci_n Lb)))] hq) kk
theorem w_2 (hA : rw_nd A) (d mc ms : Nat) (R : rw_S) (h : ax_H) {cn sn : Nat} (hcn : cn ≤ mc) (hsn : sn ≤ ms) {c s n1 n2 n3 i j k lf rs a1 a2 a3 ra rb rz : Nat} {cf2 : Nat → Option Nat} (hc2 : rw_at A h a2 (.inl (4, n2, .inr (.inr (.inr (.inr cf2)))))) {cf3 : Nat → Option Nat} (hc3 : rw_at A h a3 (.inl (4, n3, .inr (.inr (.inr (.inr cf3)))))) {fb : Nat → Int32} {Lb : List Nat} (hb : rw_at A h rb (.inl (0, Lb.length, .inl fb)) ∧ ∀ i x, Lb[i]? = some x → fb i = nI x) (lb : Lb.length ≤ 40) (xb : ∀ a ∈ Lb, a ≤ 105) (hj : j < n2) (hn2 : n2 ≤ 300) (hn3 : n3 ≤ 300) (hrj : cf2 j = some rb) (hs7 : s ≤ 7) (hlf : lf ≤ s) (hrs : rs + ci_n Lb = lf) {Q : ax_P} (kk : AW G mX7_write (d + 1) mc ms Q 146 [(0, .ref (A.1 0)), (1, .int (nI c)), (2, .int (nI (s + 1))), (3, .ref a1), (4, .ref a2), (5, .ref a3), (6, .ref a1), (7, .int (nI n1)), (8, .int (nI i)), (9, .ref ra), (10, .int (nI lf)), (11, .ref a2), (12, .int (nI n2)), (13, .int (nI j)), (14, .ref rb), (15, .int (nI rs)), (16, .ref a3), (17, .int (nI n3)), (18, .int (nI 0))] [] (rw_O A R h) cn sn) : AW G mX7_write (d + 1) mc ms Q 102 [(0, .ref (A.1 0)), (1, .int (nI c)), (2, .int (nI (s + 1))), (3, .ref a1), (4, .ref a2), (5, .ref a3), (6, .ref a1), (7, .int (nI n1)), (8, .int (nI i)), (9, .ref ra), (10, .int (nI lf)), (11, .ref a2), (12, .int (nI n2)), (13, .int (nI j))] [] (rw_O A R h) cn sn := by
  refine ax_iload dX7_write_102 rfl ?_
  refine ax_iload dX7_write_104 rfl ?_
  refine ax_icmp_ge (tgt := 412) dX7_write_106 (by decide) (fun z => absurd z (il_nle n2 j hj)) (fun _ => ?_)
  refine ax_aload dX7_write_109 rfl ?_
  refine ax_iload dX7_write_111 rfl ?_
  refine ax_raald dX7_write_113 (rw_rd hc2) (nI_in hj (by omega)) (w := rb) (by rw [nI_clamp (by omega)]; exact hrj) ?_
  refine ax_astore dX7_write_114 (by decide) ?_
  refine ax_sub (lv' := [(0, .ref (A.1 0)), (1, .int (nI c)), (2, .int (nI (s + 1))), (3, .ref a1), (4, .ref a2), (5, .ref a3), (6, .ref a1), (7, .int (nI n1)), (8, .int (nI i)), (9, .ref ra), (10, .int (nI lf)), (11, .ref a2), (12, .int (nI n2)), (13, .int (nI j)), (14, .ref rb)]) (fun _ z => z) ?_
  refine ax_iload dX7_write_116 rfl ?_
  refine ax_aload dX7_write_118 rfl ?_
  refine ax_callS (av := [.ref rb]) (rest := [.int (nI lf)]) (mc' := 0) (ms' := 0) dX7_write_120 rfl lkX7_117 rfl (Nat.le_of_ble_eq_true rfl) (Nat.le_of_ble_eq_true rfl) (by omega) (by omega) (r_consIn _ _ (rw_rd hb.1) (by omega) hb.2 xb) (fun E9 h9 q9 => by cases q9.1) (fun v9 h9 q9 => ?_)
  obtain ⟨e9, rfl⟩ := q9
  cases e9
  show AW G mX7_write (d + 1) mc ms _ 123 [(0, .ref (A.1 0)), (1, .int (nI c)), (2, .int (nI (s + 1))), (3, .ref a1), (4, .ref a2), (5, .ref a3), (6, .ref a1), (7, .int (nI n1)), (8, .int (nI i)), (9, .ref ra), (10, .int (nI lf)), (11, .ref a2), (12, .int (nI n2)), (13, .int (nI j)), (14, .ref rb)] [.int (nI (ci_n Lb)), .int (nI lf)] (rw_O A R h) cn sn
  refine ax_isub dX7_write_123 ?_
  refine ax_top (y := (nI rs)) (by rw [pk_sub (by omega)]; congr 1; omega) ?_
  refine ax_istore dX7_write_124 (by decide) ?_
  refine ax_sub (lv' := [(0, .ref (A.1 0)), (1, .int (nI c)), (2, .int (nI (s + 1))), (3, .ref a1), (4, .ref a2), (5, .ref a3), (6, .ref a1), (7, .int (nI n1)), (8, .int (nI i)), (9, .ref ra), (10, .int (nI lf)), (11, .ref a2), (12, .int (nI n2)), (13, .int (nI j)), (14, .ref rb), (15, .int (nI rs))]) (fun _ z => z) ?_
  refine ax_iload dX7_write_126 rfl ?_
  refine ax_if_ge (tgt := 134) dX7_write_128 (by decide) (fun _ => ?_) (fun z => absurd (nI_pos' (by omega)) z)
  refine ax_aload dX7_write_134 rfl ?_
  refine ax_astore dX7_write_136 (by decide) ?_
  refine ax_sub (lv' := [(0, .ref (A.1 0)), (1, .int (nI c)), (2, .int (nI (s + 1))), (3, .ref a1), (4, .ref a2), (5, .ref a3), (6, .ref a1), (7, .int (nI n1)), (8, .int (nI i)), (9, .ref ra), (10, .int (nI lf)), (11, .ref a2), (12, .int (nI n2)), (13, .int (nI j)), (14, .ref rb), (15, .int (nI rs)), (16, .ref a3)]) (fun _ z => z) ?_
  refine ax_aload dX7_write_138 rfl ?_
  refine ax_alen (n := n3) dX7_write_140 (rw_rd hc3) (by decide) ?_
  refine ax_istore dX7_write_141 (by decide) ?_
  refine ax_sub (lv' := [(0, .ref (A.1 0)), (1, .int (nI c)), (2, .int (nI (s + 1))), (3, .ref a1), (4, .ref a2), (5, .ref a3), (6, .ref a1), (7, .int (nI n1)), (8, .int (nI i)), (9, .ref ra), (10, .int (nI lf)), (11, .ref a2), (12, .int (nI n2)), (13, .int (nI j)), (14, .ref rb), (15, .int (nI rs)), (16, .ref a3), (17, .int (nI n3))]) (fun _ z => z) ?_
  refine ax_iconst (v := 0) dX7_write_143 (by decide) ?_
  refine ax_istore dX7_write_144 (by decide) ?_
  refine ax_sub (lv' := [(0, .ref (A.1 0)), (1, .int (nI c)), (2, .int (nI (s + 1))), (3, .ref a1), (4, .ref a2), (5, .ref a3), (6, .ref a1), (7, .int (nI n1)), (8, .int (nI i)), (9, .ref ra), (10, .int (nI lf)), (11, .ref a2), (12, .int (nI n2)), (13, .int (nI j)), (14, .ref rb), (15, .int (nI rs)), (16, .ref a3), (17, .int (nI n3)), (18, .int 0)]) (fun _ z => z) ?_
  exact kk
theorem w_3e (hA : rw_nd A) (d mc ms : Nat) (R : rw_S) (h : ax_H) {cn sn : Nat} (hcn : cn ≤ mc) (hsn : sn ≤ ms) {c s n1 n2 n3 i j k lf rs a1 a2 a3 ra rb rz : Nat} (hn3 : n3 ≤ 300) {Q : ax_P} (kk : AW G mX7_write (d + 1) mc ms Q 102 [(0, .ref (A.1 0)), (1, .int (nI c)), (2, .int (nI (s + 1))), (3, .ref a1), (4, .ref a2), (5, .ref a3), (6, .ref a1), (7, .int (nI n1)), (8, .int (nI i)), (9, .ref ra), (10, .int (nI lf)), (11, .ref a2), (12, .int (nI n2)), (13, .int (nI (j + 1)))] [] (rw_O A R h) cn sn) : AW G mX7_write (d + 1) mc ms Q 146 [(0, .ref (A.1 0)), (1, .int (nI c)), (2, .int (nI (s + 1))), (3, .ref a1), (4, .ref a2), (5, .ref a3), (6, .ref a1), (7, .int (nI n1)), (8, .int (nI i)), (9, .ref ra), (10, .int (nI lf)), (11, .ref a2), (12, .int (nI n2)), (13, .int (nI j)), (14, .ref rb), (15, .int (nI rs)), (16, .ref a3), (17, .int (nI n3)), (18, .int (nI n3))] [] (rw_O A R h) cn sn := by
  refine ax_iload dX7_write_146 rfl ?_
  refine ax_iload dX7_write_148 rfl ?_
  refine ax_icmp_ge (tgt := 406) dX7_write_150 (by decide) (fun _ => ?_) (fun z => absurd (il_le n3 n3 (Nat.le_refl _)) z)
  refine ax_iinc (v := (nI (j + 1))) dX7_write_406 rfl (nI_1 j) (by decide) ?_
  refine ax_sub (lv' := [(0, .ref (A.1 0)), (1, .int (nI c)), (2, .int (nI (s + 1))), (3, .ref a1), (4, .ref a2), (5, .ref a3), (6, .ref a1), (7, .int (nI n1)), (8, .int (nI i)), (9, .ref ra), (10, .int (nI lf)), (11, .ref a2), (12, .int (nI n2)), (13, .int (nI (j + 1))), (14, .ref rb), (15, .int (nI rs)), (16, .ref a3), (17, .int (nI n3)), (18, .int (nI n3))]) (fun _ z => z) ?_
  refine ax_goto (tgt := 102) dX7_write_409 (by decide) ?_
  exact ax_sub (fun q hq => List.mem_append_left [(14, .ref rb), (15, .int (nI rs)), (16, .ref a3), (17, .int (nI n3)), (18, .int (nI n3))] hq) kk
theorem w_3n (hA : rw_nd A) (d mc ms : Nat) (R : rw_S) (h : ax_H) {cn sn : Nat} (hcn : cn ≤ mc) (hsn : sn ≤ ms) {c s n1 n2 n3 i j k lf rs a1 a2 a3 ra rb rz : Nat} {cf3 : Nat → Option Nat} (hc3 : rw_at A h a3 (.inl (4, n3, .inr (.inr (.inr (.inr cf3)))))) {fz : Nat → Int32} {Lz : List Nat} (hz : rw_at A h rz (.inl (0, Lz.length, .inl fz)) ∧ ∀ i x, Lz[i]? = some x → fz i = nI x) (lz : Lz.length ≤ 40) (xz : ∀ a ∈ Lz, a ≤ 105) (hk : k < n3) (hn3 : n3 ≤ 300) (hrk : cf3 k = some rz) (hrs : rs ≤ 7) (hne : ci_n Lz ≠ rs) (hle : ci_n Lz ≤ 40) {Q : ax_P} (kk : AW G mX7_write (d + 1) mc ms Q 146 [(0, .ref (A.1 0)), (1, .int (nI c)), (2, .int (nI (s + 1))), (3, .ref a1), (4, .ref a2), (5, .ref a3), (6, .ref a1), (7, .int (nI n1)), (8, .int (nI i)), (9, .ref ra), (10, .int (nI lf)), (11, .ref a2), (12, .int (nI n2)), (13, .int (nI j)), (14, .ref rb), (15, .int (nI rs)), (16, .ref a3), (17, .int (nI n3)), (18, .int (nI (k + 1)))] [] (rw_O A R h) cn sn) : AW G mX7_write (d + 1) mc ms Q 146 [(0, .ref (A.1 0)), (1, .int (nI c)), (2, .int (nI (s + 1))), (3, .ref a1), (4, .ref a2), (5, .ref a3), (6, .ref a1), (7, .int (nI n1)), (8, .int (nI i)), (9, .ref ra), (10, .int (nI lf)), (11, .ref a2), (12, .int (nI n2)), (13, .int (nI j)), (14, .ref rb), (15, .int (nI rs)), (16, .ref a3), (17, .int (nI n3)), (18, .int (nI k))] [] (rw_O A R h) cn sn := by
  refine ax_iload dX7_write_146 rfl ?_
  refine ax_iload dX7_write_148 rfl ?_
  refine ax_icmp_ge (tgt := 406) dX7_write_150 (by decide) (fun z => absurd z (il_nle n3 k hk)) (fun _ => ?_)
  refine ax_aload dX7_write_153 rfl ?_
  refine ax_iload dX7_write_155 rfl ?_
  refine ax_raald dX7_write_157 (rw_rd hc3) (nI_in hk (by omega)) (w := rz) (by rw [nI_clamp (by omega)]; exact hrk) ?_
  refine ax_astore dX7_write_158 (by decide) ?_
  refine ax_sub (lv' := [(0, .ref (A.1 0)), (1, .int (nI c)), (2, .int (nI (s + 1))), (3, .ref a1), (4, .ref a2), (5, .ref a3), (6, .ref a1), (7, .int (nI n1)), (8, .int (nI i)), (9, .ref ra), (10, .int (nI lf)), (11, .ref a2), (12, .int (nI n2)), (13, .int (nI j)), (14, .ref rb), (15, .int (nI rs)), (16, .ref a3), (17, .int (nI n3)), (18, .int (nI k)), (19, .ref rz)]) (fun _ z => z) ?_
  refine ax_aload dX7_write_160 rfl ?_
  refine ax_callS (av := [.ref rz]) (rest := []) (mc' := 0) (ms' := 0) dX7_write_162 rfl lkX7_117 rfl (Nat.le_of_ble_eq_true rfl) (Nat.le_of_ble_eq_true rfl) (by omega) (by omega) (r_consIn _ _ (rw_rd hz.1) (by omega) hz.2 xz) (fun E9 h9 q9 => by cases q9.1) (fun v9 h9 q9 => ?_)
  obtain ⟨e9, rfl⟩ := q9
  cases e9
  show AW G mX7_write (d + 1) mc ms _ 165 [(0, .ref (A.1 0)), (1, .int (nI c)), (2, .int (nI (s + 1))), (3, .ref a1), (4, .ref a2), (5, .ref a3), (6, .ref a1), (7, .int (nI n1)), (8, .int (nI i)), (9, .ref ra), (10, .int (nI lf)), (11, .ref a2), (12, .int (nI n2)), (13, .int (nI j)), (14, .ref rb), (15, .int (nI rs)), (16, .ref a3), (17, .int (nI n3)), (18, .int (nI k)), (19, .ref rz)] [.int (nI (ci_n Lz))] (rw_O A R h) cn sn
  refine ax_iload dX7_write_165 rfl ?_
  refine ax_icmp_eq (tgt := 173) dX7_write_167 (by decide) (fun z => absurd z (il_ne (ci_n Lz) rs hne)) (fun _ => ?_)
  refine ax_goto (tgt := 400) dX7_write_170 (by decide) ?_
  refine ax_iinc (v := (nI (k + 1))) dX7_write_400 rfl (nI_1 k) (by decide) ?_
  refine ax_sub (lv' := [(0, .ref (A.1 0)), (1, .int (nI c)), (2, .int (nI (s + 1))), (3, .ref a1), (4, .ref a2), (5, .ref a3), (6, .ref a1), (7, .int (nI n1)), (8, .int (nI i)), (9, .ref ra), (10, .int (nI lf)), (11, .ref a2), (12, .int (nI n2)), (13, .int (nI j)), (14, .ref rb), (15, .int (nI rs)), (16, .ref a3), (17, .int (nI n3)), (18, .int (nI (k + 1))), (19, .ref rz)]) (fun _ z => z) ?_
  refine ax_goto (tgt := 146) dX7_write_403 (by decide) ?_
  exact ax_sub (fun q hq => List.mem_append_left [(19, .ref rz)] hq) kk
theorem w_3y (hA : rw_nd A) (d mc ms : Nat) (R : rw_S) (h : ax_H) {cn sn : Nat} (hcn : cn ≤ mc) (hsn : sn ≤ ms) {c s n1 n2 n3 i j k lf rs a1 a2 a3 ra rb rz : Nat} {cf3 : Nat → Option Nat} (hc3 : rw_at A h a3 (.inl (4, n3, .inr (.inr (.inr (.inr cf3)))))) {fz : Nat → Int32} {Lz : List Nat} (hz : rw_at A h rz (.inl (0, Lz.length, .inl fz)) ∧ ∀ i x, Lz[i]? = some x → fz i = nI x) (lz : Lz.length ≤ 40) (xz : ∀ a ∈ Lz, a ≤ 105) (hk : k < n3) (hn3 : n3 ≤ 300) (hrk : cf3 k = some rz) (hrs : ci_n Lz = rs) (hle : ci_n Lz ≤ 40) {Q : ax_P} (kk : AW G mX7_write (d + 1) mc ms Q 173 [(0, .ref (A.1 0)), (1, .int (nI c)), (2, .int (nI (s + 1))), (3, .ref a1), (4, .ref a2), (5, .ref a3), (6, .ref a1), (7, .int (nI n1)), (8, .int (nI i)), (9, .ref ra), (10, .int (nI lf)), (11, .ref a2), (12, .int (nI n2)), (13, .int (nI j)), (14, .ref rb), (15, .int (nI rs)), (16, .ref a3), (17, .int (nI n3)), (18, .int (nI k)), (19, .ref rz)] [] (rw_O A R h) cn sn) : AW G mX7_write (d + 1) mc ms Q 146 [(0, .ref (A.1 0)), (1, .int (nI c)), (2, .int (nI (s + 1))), (3, .ref a1), (4, .ref a2), (5, .ref a3), (6, .ref a1), (7, .int (nI n1)), (8, .int (nI i)), (9, .ref ra), (10, .int (nI lf)), (11, .ref a2), (12, .int (nI n2)), (13, .int (nI j)), (14, .ref rb), (15, .int (nI rs)), (16, .ref a3), (17, .int (nI n3)), (18, .int (nI k))] [] (rw_O A R h) cn sn := by
  refine ax_iload dX7_write_146 rfl ?_
  refine ax_iload dX7_write_148 rfl ?_
  refine ax_icmp_ge (tgt := 406) dX7_write_150 (by decide) (fun z => absurd z (il_nle n3 k hk)) (fun _ => ?_)
  refine ax_aload dX7_write_153 rfl ?_
  refine ax_iload dX7_write_155 rfl ?_
  refine ax_raald dX7_write_157 (rw_rd hc3) (nI_in hk (by omega)) (w := rz) (by rw [nI_clamp (by omega)]; exact hrk) ?_
  refine ax_astore dX7_write_158 (by decide) ?_
  refine ax_sub (lv' := [(0, .ref (A.1 0)), (1, .int (nI c)), (2, .int (nI (s + 1))), (3, .ref a1), (4, .ref a2), (5, .ref a3), (6, .ref a1), (7, .int (nI n1)), (8, .int (nI i)), (9, .ref ra), (10, .int (nI lf)), (11, .ref a2), (12, .int (nI n2)), (13, .int (nI j)), (14, .ref rb), (15, .int (nI rs)), (16, .ref a3), (17, .int (nI n3)), (18, .int (nI k)), (19, .ref rz)]) (fun _ z => z) ?_
  refine ax_aload dX7_write_160 rfl ?_
  refine ax_callS (av := [.ref rz]) (rest := []) (mc' := 0) (ms' := 0) dX7_write_162 rfl lkX7_117 rfl (Nat.le_of_ble_eq_true rfl) (Nat.le_of_ble_eq_true rfl) (by omega) (by omega) (r_consIn _ _ (rw_rd hz.1) (by omega) hz.2 xz) (fun E9 h9 q9 => by cases q9.1) (fun v9 h9 q9 => ?_)
  obtain ⟨e9, rfl⟩ := q9
  cases e9
  show AW G mX7_write (d + 1) mc ms _ 165 [(0, .ref (A.1 0)), (1, .int (nI c)), (2, .int (nI (s + 1))), (3, .ref a1), (4, .ref a2), (5, .ref a3), (6, .ref a1), (7, .int (nI n1)), (8, .int (nI i)), (9, .ref ra), (10, .int (nI lf)), (11, .ref a2), (12, .int (nI n2)), (13, .int (nI j)), (14, .ref rb), (15, .int (nI rs)), (16, .ref a3), (17, .int (nI n3)), (18, .int (nI k)), (19, .ref rz)] [.int (nI (ci_n Lz))] (rw_O A R h) cn sn
  refine ax_iload dX7_write_165 rfl ?_
  refine ax_icmp_eq (tgt := 173) dX7_write_167 (by decide) (fun _ => ?_) (fun z => absurd (by rw [hrs]) z)
  exact kk

def ws_f (f0 fa fb fz : Nat → Int32) (c la lb lz : Nat) : Nat → Int32 := va_cpy fz (va_cpy fb (va_cpy fa (upd f0 0 (100 + nI c)) (0 : Int32).toNatClampNeg (1 : Int32).toNatClampNeg (nI la).toNatClampNeg) (0 : Int32).toNatClampNeg (nI (1 + la)).toNatClampNeg (nI lb).toNatClampNeg) (0 : Int32).toNatClampNeg (nI (1 + la + lb)).toNatClampNeg (nI lz).toNatClampNeg
theorem ws_cd {f0 fa fb fz : Nat → Int32} {c : Nat} {La Lb Lz : List Nat} (hl : 1 + La.length + Lb.length + Lz.length ≤ 40) (ha : ∀ i x, La[i]? = some x → fa i = nI x) (hb : ∀ i x, Lb[i]? = some x → fb i = nI x) (hz : ∀ i x, Lz[i]? = some x → fz i = nI x) : rw_cd ((100 + c) :: (La ++ Lb ++ Lz)) 40 (ws_f f0 fa fb fz c La.length Lb.length Lz.length) := by
  refine ⟨by simp; omega, by decide, fun i x hi => ?_⟩
  unfold ws_f
  rw [nI_clamp (by omega), nI_clamp (by omega), nI_clamp (by omega), nI_clamp (by omega), nI_clamp (by omega), show (0 : Int32).toNatClampNeg = 0 by decide, show (1 : Int32).toNatClampNeg = 1 by decide]
  have hil := (List.getElem?_eq_some_iff.mp hi).1
  rw [List.length_cons, List.length_append, List.length_append] at hil
  by_cases i0 : i = 0
  · subst i0
    rw [pk_cpy_out (by omega), pk_cpy_out (by omega), pk_cpy_out (by omega), pk_us]
    have hi : 100 + c = x := by simpa using hi
    rw [← hi, show (100 : Int32) = nI 100 by decide, nI_add]
  · obtain ⟨j, rfl⟩ : ∃ j, i = j + 1 := ⟨i - 1, by omega⟩
    rw [List.getElem?_cons_succ] at hi
    by_cases ja : j < La.length
    · rw [pk_cpy_out (by omega), pk_cpy_out (by omega), pk_cpy_in (by omega) (by omega)]
      rw [List.append_assoc, List.getElem?_append_left ja] at hi
      rw [show 0 + (j + 1 - 1) = j by omega]
      exact ha j x hi
    · by_cases jb : j < La.length + Lb.length
      · rw [pk_cpy_out (by omega), pk_cpy_in (by omega) (by omega)]
        rw [List.getElem?_append_left (by rw [List.length_append]; exact jb), List.getElem?_append_right (by omega)] at hi
        rw [show 0 + (j + 1 - (1 + La.length)) = j - La.length by omega]
        exact hb _ x hi
      · rw [pk_cpy_in (by omega) (by omega)]
        rw [List.getElem?_append_right (by rw [List.length_append]; omega), List.length_append] at hi
        rw [show 0 + (j + 1 - (1 + La.length + Lb.length)) = j - (La.length + Lb.length) by omega]
        exact hz _ x hi

set_option maxRecDepth 100000 in
set_option maxHeartbeats 4000000 in
theorem w_fill (hA : rw_nd A) (d mc ms : Nat) (R : rw_S) (h : ax_H) {cn sn : Nat} (hcn : cn ≤ mc) (hsn : sn ≤ ms) {c s n1 n2 n3 i j k lf rs a1 a2 a3 ra rb rz : Nat} {fa : Nat → Int32} {La : List Nat} (ha : rw_at A h ra (.inl (0, La.length, .inl fa)) ∧ ∀ i x, La[i]? = some x → fa i = nI x) (la : La.length ≤ 40) (xa : ∀ a ∈ La, a ≤ 105) {fb : Nat → Int32} {Lb : List Nat} (hb : rw_at A h rb (.inl (0, Lb.length, .inl fb)) ∧ ∀ i x, Lb[i]? = some x → fb i = nI x) (lb : Lb.length ≤ 40) (xb : ∀ a ∈ Lb, a ≤ 105) {fz : Nat → Int32} {Lz : List Nat} (hz : rw_at A h rz (.inl (0, Lz.length, .inl fz)) ∧ ∀ i x, Lz[i]? = some x → fz i = nI x) (lz : Lz.length ≤ 40) (xz : ∀ a ∈ Lz, a ≤ 105) (hl : 1 + La.length + Lb.length + Lz.length ≤ 40) {Q : ax_P} (kk : ∀ R1 : rw_S, (R1.1 = R.1 ∧ R1.2.2 = R.2.2 ∧ (∀ i, i ≠ 10 → R1.2.1 i = R.2.1 i) ∧ R1.2.1 10 = ws_f (R.2.1 10) fa fb fz c La.length Lb.length Lz.length) → AW G mX7_write (d + 1) mc ms Q 252 [(0, .ref (A.1 0)), (1, .int (nI c)), (2, .int (nI (s + 1))), (3, .ref a1), (4, .ref a2), (5, .ref a3), (6, .ref a1), (7, .int (nI n1)), (8, .int (nI i)), (9, .ref ra), (10, .int (nI lf)), (11, .ref a2), (12, .int (nI n2)), (13, .int (nI j)), (14, .ref rb), (15, .int (nI rs)), (16, .ref a3), (17, .int (nI n3)), (18, .int (nI k)), (19, .ref rz), (20, .int (nI (1 + La.length + Lb.length + Lz.length)))] [] (rw_O A R1 h) cn sn) : AW G mX7_write (d + 1) mc ms Q 173 [(0, .ref (A.1 0)), (1, .int (nI c)), (2, .int (nI (s + 1))), (3, .ref a1), (4, .ref a2), (5, .ref a3), (6, .ref a1), (7, .int (nI n1)), (8, .int (nI i)), (9, .ref ra), (10, .int (nI lf)), (11, .ref a2), (12, .int (nI n2)), (13, .int (nI j)), (14, .ref rb), (15, .int (nI rs)), (16, .ref a3), (17, .int (nI n3)), (18, .int (nI k)), (19, .ref rz)] [] (rw_O A R h) cn sn := by
  refine ax_iconst (v := 1) dX7_write_173 (by decide) ?_
  refine ax_aload dX7_write_174 rfl ?_
  refine ax_alen (n := La.length) dX7_write_176 (rw_rd ha.1) (by decide) ?_
  refine ax_iadd dX7_write_177 ?_
  refine ax_top (y := (nI (1 + La.length))) (nI_add 1 _) ?_
  refine ax_aload dX7_write_178 rfl ?_
  refine ax_alen (n := Lb.length) dX7_write_180 (rw_rd hb.1) (by decide) ?_
  refine ax_iadd dX7_write_181 ?_
  refine ax_top (y := (nI (1 + La.length + Lb.length))) (nI_add _ _) ?_
  refine ax_aload dX7_write_182 rfl ?_
  refine ax_alen (n := Lz.length) dX7_write_184 (rw_rd hz.1) (by decide) ?_
  refine ax_iadd dX7_write_185 ?_
  refine ax_top (y := (nI (1 + La.length + Lb.length + Lz.length))) (nI_add _ _) ?_
  refine ax_istore dX7_write_186 (by decide) ?_
  refine ax_sub (lv' := [(0, .ref (A.1 0)), (1, .int (nI c)), (2, .int (nI (s + 1))), (3, .ref a1), (4, .ref a2), (5, .ref a3), (6, .ref a1), (7, .int (nI n1)), (8, .int (nI i)), (9, .ref ra), (10, .int (nI lf)), (11, .ref a2), (12, .int (nI n2)), (13, .int (nI j)), (14, .ref rb), (15, .int (nI rs)), (16, .ref a3), (17, .int (nI n3)), (18, .int (nI k)), (19, .ref rz), (20, .int (nI (1 + La.length + Lb.length + Lz.length)))]) (fun _ z => z) ?_
  refine ax_aload_n dX7_write_188 rfl ?_
  refine ax_get (v := .ref (A.1 10)) dX7_write_189 fkX7_46 (rw_g0 hA) rfl ?_
  refine ax_iconst (v := 0) dX7_write_192 (by decide) ?_
  refine ax_bipush (v := 100) dX7_write_193 (by decide) ?_
  refine ax_iload_n dX7_write_195 rfl ?_
  refine ax_iadd dX7_write_196 ?_
  refine ax_iast dX7_write_197 (rw_g10 hA) (by unfold vp_in; decide) ?_
  refine ax_eqh (rw_pa10 hA) ?_
  refine ax_aload dX7_write_198 rfl ?_
  refine ax_iconst (v := 0) dX7_write_200 (by decide) ?_
  refine ax_aload_n dX7_write_201 rfl ?_
  refine ax_get (v := .ref (A.1 10)) dX7_write_202 fkX7_46 (rw_g0 hA) rfl ?_
  refine ax_iconst (v := 1) dX7_write_205 (by decide) ?_
  refine ax_aload dX7_write_206 rfl ?_
  refine ax_alen (n := La.length) dX7_write_208 (rw_rd ha.1) (by decide) ?_
  refine ax_copy dX7_write_209 mlX7_121 ax_cN ax_cS ax_iSys (Nat.le_of_ble_eq_true rfl) (rw_rd ha.1) (rw_g10 hA) (by decide) (by decide) (nI_pos (by omega)) (by rw [nI_clamp (by omega)]; exact Nat.le_of_eq (Nat.zero_add _)) (by rw [nI_clamp (by omega)]; show 1 + La.length ≤ 40; omega) ?_
  refine ax_eqh (rw_pa10 hA) ?_
  refine ax_aload dX7_write_212 rfl ?_
  refine ax_iconst (v := 0) dX7_write_214 (by decide) ?_
  refine ax_aload_n dX7_write_215 rfl ?_
  refine ax_get (v := .ref (A.1 10)) dX7_write_216 fkX7_46 (rw_g0 hA) rfl ?_
  refine ax_iconst (v := 1) dX7_write_219 (by decide) ?_
  refine ax_aload dX7_write_220 rfl ?_
  refine ax_alen (n := La.length) dX7_write_222 (rw_rd ha.1) (by decide) ?_
  refine ax_iadd dX7_write_223 ?_
  refine ax_top (y := (nI (1 + La.length))) (nI_add 1 _) ?_
  refine ax_aload dX7_write_224 rfl ?_
  refine ax_alen (n := Lb.length) dX7_write_226 (rw_rd hb.1) (by decide) ?_
  refine ax_copy dX7_write_227 mlX7_121 ax_cN ax_cS ax_iSys (Nat.le_of_ble_eq_true rfl) (rw_rd hb.1) (rw_g10 hA) (by decide) (nI_pos (by omega)) (nI_pos (by omega)) (by rw [nI_clamp (by omega)]; exact Nat.le_of_eq (Nat.zero_add _)) (by rw [nI_clamp (by omega), nI_clamp (by omega)]; omega) ?_
  refine ax_eqh (rw_pa10 hA) ?_
  refine ax_aload dX7_write_230 rfl ?_
  refine ax_iconst (v := 0) dX7_write_232 (by decide) ?_
  refine ax_aload_n dX7_write_233 rfl ?_
  refine ax_get (v := .ref (A.1 10)) dX7_write_234 fkX7_46 (rw_g0 hA) rfl ?_
  refine ax_iconst (v := 1) dX7_write_237 (by decide) ?_
  refine ax_aload dX7_write_238 rfl ?_
  refine ax_alen (n := La.length) dX7_write_240 (rw_rd ha.1) (by decide) ?_
  refine ax_iadd dX7_write_241 ?_
  refine ax_top (y := (nI (1 + La.length))) (nI_add 1 _) ?_
  refine ax_aload dX7_write_242 rfl ?_
  refine ax_alen (n := Lb.length) dX7_write_244 (rw_rd hb.1) (by decide) ?_
  refine ax_iadd dX7_write_245 ?_
  refine ax_top (y := (nI (1 + La.length + Lb.length))) (nI_add _ _) ?_
  refine ax_aload dX7_write_246 rfl ?_
  refine ax_alen (n := Lz.length) dX7_write_248 (rw_rd hz.1) (by decide) ?_
  refine ax_copy dX7_write_249 mlX7_121 ax_cN ax_cS ax_iSys (Nat.le_of_ble_eq_true rfl) (rw_rd hz.1) (rw_g10 hA) (by decide) (nI_pos (by omega)) (nI_pos (by omega)) (by rw [nI_clamp (by omega)]; exact Nat.le_of_eq (Nat.zero_add _)) (by rw [nI_clamp (by omega), nI_clamp (by omega)]; omega) ?_
  refine ax_eqh (rw_pa10 hA) ?_
  exact kk _ ⟨rfl, rfl, fun x hx => (va_up_ne _ _ hx).trans ((va_up_ne _ _ hx).trans ((va_up_ne _ _ hx).trans (va_up_ne _ _ hx))), rfl⟩
end RWR
