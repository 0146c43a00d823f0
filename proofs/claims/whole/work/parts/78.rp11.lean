/-! ===== the reference: addConstructor, one parameter looked at ===== -/
section RP11
variable {G : ax_G} {A : rw_Ad}



set_option maxRecDepth 100000 in
set_option maxHeartbeats 4000000 in
theorem ac_zt (hA : rw_nd A) (d : Nat) (R : rw_S) (h : ax_H) {σ : sp_St} (h3 : R.1 3 = nI σ.1.2.2.1) (h4 : σ.1.2.2.1 ≤ 4) {x : Nat} {f : Nat → Int32} (hx : rw_O A R h x = some (.inl (0, 3, .inl f))) {t a b c k : Int32} {N : Nat} {Q : ax_P} {i : Nat} (hi : i < 3) (hT : po_isT σ (f i) = true) (kk : AW G mX7_addConstructor (d + 48) 1 3 Q 52 [(0, .ref (A.1 0)), (1, .int t), (2, .int a), (3, .int b), (4, .int c), (5, .int k), (6, .ref x), (7, .int (nI (N + 1))), (8, .int 0), (9, .int (nI (i + 1)))] [] (rw_O A R h) 1 3) : AW G mX7_addConstructor (d + 48) 1 3 Q 52 [(0, .ref (A.1 0)), (1, .int t), (2, .int a), (3, .int b), (4, .int c), (5, .int k), (6, .ref x), (7, .int (nI N)), (8, .int 0), (9, .int (nI i))] [] (rw_O A R h) 1 3 := by
  refine ax_iload dX7_addConstructor_52 rfl ?_
  refine ax_iconst (v := 3) dX7_addConstructor_54 (by decide) ?_
  refine ax_icmp_ge (tgt := 166) dX7_addConstructor_55 (by decide) (fun z => absurd z (il_nle 3 i (by omega))) (fun _ => ?_)
  refine ax_iload dX7_addConstructor_58 rfl ?_
  refine ax_if_eq (tgt := 98) dX7_addConstructor_60 (by decide) (fun _ => ?_) (fun z => absurd rfl z)
  refine ax_iconst (v := 0) dX7_addConstructor_98 (by decide) ?_
  refine ax_istore dX7_addConstructor_99 (by decide) ?_
  refine ax_sub (lv' := [(0, .ref (A.1 0)), (1, .int t), (2, .int a), (3, .int b), (4, .int c), (5, .int k), (6, .ref x), (7, .int (nI N)), (8, .int 0), (9, .int (nI i))]) (fun _ z => z) ?_
  refine ax_iload dX7_addConstructor_101 rfl ?_
  refine ax_if_eq (tgt := 135) dX7_addConstructor_103 (by decide) (fun _ => ?_) (fun z => absurd rfl z)
  refine ax_iconst (v := 0) dX7_addConstructor_135 (by decide) ?_
  refine ax_istore dX7_addConstructor_136 (by decide) ?_
  refine ax_sub (lv' := [(0, .ref (A.1 0)), (1, .int t), (2, .int a), (3, .int b), (4, .int c), (5, .int k), (6, .ref x), (7, .int (nI N)), (8, .int 0), (9, .int (nI i))]) (fun _ z => z) ?_
  refine ax_iload dX7_addConstructor_138 rfl ?_
  refine ax_aload_n dX7_addConstructor_140 rfl ?_
  refine ax_aload dX7_addConstructor_141 rfl ?_
  refine ax_iload dX7_addConstructor_143 rfl ?_
  refine ax_ialdv (x := (f i)) dX7_addConstructor_145 hx (nI_in (by omega) (by decide)) (by rw [nI_clamp (by omega)]) ?_
  refine ax_callV (b := (A.1 0)) (av := [.int (f i)]) (rest := [.int (nI N)]) (mc' := 0) (ms' := 0) dX7_addConstructor_146 rfl lkX7_76 (rw_g0 hA) rfl (Nat.le_of_ble_eq_true rfl) (Nat.le_of_ble_eq_true rfl) (by omega) (by omega) (r_isType hA _ R h (f i) (σ := σ) h3 h4) (fun E9 h9 q9 => by cases q9.1) (fun v9 h9 q9 => ?_)
  obtain ⟨e9, rfl⟩ := q9
  cases e9
  show AW G mX7_addConstructor (d + 48) 1 3 _ 149 [(0, .ref (A.1 0)), (1, .int t), (2, .int a), (3, .int b), (4, .int c), (5, .int k), (6, .ref x), (7, .int (nI N)), (8, .int 0), (9, .int (nI i))] [.int (if po_isT σ (f i) then 1 else 0), .int (nI N)] (rw_O A R h) 1 3
  refine ax_if_eq (tgt := 156) dX7_addConstructor_149 (by decide) (fun z => absurd z (by rw [hT]; decide)) (fun _ => ?_)
  refine ax_iconst (v := 1) dX7_addConstructor_152 (by decide) ?_
  refine ax_goto (tgt := 157) dX7_addConstructor_153 (by decide) ?_
  refine ax_iadd dX7_addConstructor_157 ?_
  refine ax_top (y := (nI (N + 1))) (nI_add _ 1) ?_
  refine ax_istore dX7_addConstructor_158 (by decide) ?_
  refine ax_sub (lv' := [(0, .ref (A.1 0)), (1, .int t), (2, .int a), (3, .int b), (4, .int c), (5, .int k), (6, .ref x), (7, .int (nI (N + 1))), (8, .int 0), (9, .int (nI i))]) (fun _ z => z) ?_
  refine ax_iinc (v := (nI (i + 1))) dX7_addConstructor_160 rfl (nI_1 _) (by decide) ?_
  refine ax_sub (lv' := [(0, .ref (A.1 0)), (1, .int t), (2, .int a), (3, .int b), (4, .int c), (5, .int k), (6, .ref x), (7, .int (nI (N + 1))), (8, .int 0), (9, .int (nI (i + 1)))]) (fun _ z => z) ?_
  refine ax_goto (tgt := 52) dX7_addConstructor_163 (by decide) ?_
  exact kk
set_option maxRecDepth 100000 in
set_option maxHeartbeats 4000000 in
theorem ac_zf (hA : rw_nd A) (d : Nat) (R : rw_S) (h : ax_H) {σ : sp_St} (h3 : R.1 3 = nI σ.1.2.2.1) (h4 : σ.1.2.2.1 ≤ 4) {x : Nat} {f : Nat → Int32} (hx : rw_O A R h x = some (.inl (0, 3, .inl f))) {t a b c k : Int32} {N : Nat} {Q : ax_P} {i : Nat} (hi : i < 3) (hT : po_isT σ (f i) = false) (kk : AW G mX7_addConstructor (d + 48) 1 3 Q 52 [(0, .ref (A.1 0)), (1, .int t), (2, .int a), (3, .int b), (4, .int c), (5, .int k), (6, .ref x), (7, .int (nI (N + 0))), (8, .int 0), (9, .int (nI (i + 1)))] [] (rw_O A R h) 1 3) : AW G mX7_addConstructor (d + 48) 1 3 Q 52 [(0, .ref (A.1 0)), (1, .int t), (2, .int a), (3, .int b), (4, .int c), (5, .int k), (6, .ref x), (7, .int (nI N)), (8, .int 0), (9, .int (nI i))] [] (rw_O A R h) 1 3 := by
  refine ax_iload dX7_addConstructor_52 rfl ?_
  refine ax_iconst (v := 3) dX7_addConstructor_54 (by decide) ?_
  refine ax_icmp_ge (tgt := 166) dX7_addConstructor_55 (by decide) (fun z => absurd z (il_nle 3 i (by omega))) (fun _ => ?_)
  refine ax_iload dX7_addConstructor_58 rfl ?_
  refine ax_if_eq (tgt := 98) dX7_addConstructor_60 (by decide) (fun _ => ?_) (fun z => absurd rfl z)
  refine ax_iconst (v := 0) dX7_addConstructor_98 (by decide) ?_
  refine ax_istore dX7_addConstructor_99 (by decide) ?_
  refine ax_sub (lv' := [(0, .ref (A.1 0)), (1, .int t), (2, .int a), (3, .int b), (4, .int c), (5, .int k), (6, .ref x), (7, .int (nI N)), (8, .int 0), (9, .int (nI i))]) (fun _ z => z) ?_
  refine ax_iload dX7_addConstructor_101 rfl ?_
  refine ax_if_eq (tgt := 135) dX7_addConstructor_103 (by decide) (fun _ => ?_) (fun z => absurd rfl z)
  refine ax_iconst (v := 0) dX7_addConstructor_135 (by decide) ?_
  refine ax_istore dX7_addConstructor_136 (by decide) ?_
  refine ax_sub (lv' := [(0, .ref (A.1 0)), (1, .int t), (2, .int a), (3, .int b), (4, .int c), (5, .int k), (6, .ref x), (7, .int (nI N)), (8, .int 0), (9, .int (nI i))]) (fun _ z => z) ?_
  refine ax_iload dX7_addConstructor_138 rfl ?_
  refine ax_aload_n dX7_addConstructor_140 rfl ?_
  refine ax_aload dX7_addConstructor_141 rfl ?_
  refine ax_iload dX7_addConstructor_143 rfl ?_
  refine ax_ialdv (x := (f i)) dX7_addConstructor_145 hx (nI_in (by omega) (by decide)) (by rw [nI_clamp (by omega)]) ?_
  refine ax_callV (b := (A.1 0)) (av := [.int (f i)]) (rest := [.int (nI N)]) (mc' := 0) (ms' := 0) dX7_addConstructor_146 rfl lkX7_76 (rw_g0 hA) rfl (Nat.le_of_ble_eq_true rfl) (Nat.le_of_ble_eq_true rfl) (by omega) (by omega) (r_isType hA _ R h (f i) (σ := σ) h3 h4) (fun E9 h9 q9 => by cases q9.1) (fun v9 h9 q9 => ?_)
  obtain ⟨e9, rfl⟩ := q9
  cases e9
  show AW G mX7_addConstructor (d + 48) 1 3 _ 149 [(0, .ref (A.1 0)), (1, .int t), (2, .int a), (3, .int b), (4, .int c), (5, .int k), (6, .ref x), (7, .int (nI N)), (8, .int 0), (9, .int (nI i))] [.int (if po_isT σ (f i) then 1 else 0), .int (nI N)] (rw_O A R h) 1 3
  refine ax_if_eq (tgt := 156) dX7_addConstructor_149 (by decide) (fun _ => ?_) (fun z => absurd (by rw [hT]; rfl) z)
  refine ax_iconst (v := 0) dX7_addConstructor_156 (by decide) ?_
  refine ax_iadd dX7_addConstructor_157 ?_
  refine ax_top (y := (nI (N + 0))) (nI_add _ 0) ?_
  refine ax_istore dX7_addConstructor_158 (by decide) ?_
  refine ax_sub (lv' := [(0, .ref (A.1 0)), (1, .int t), (2, .int a), (3, .int b), (4, .int c), (5, .int k), (6, .ref x), (7, .int (nI (N + 0))), (8, .int 0), (9, .int (nI i))]) (fun _ z => z) ?_
  refine ax_iinc (v := (nI (i + 1))) dX7_addConstructor_160 rfl (nI_1 _) (by decide) ?_
  refine ax_sub (lv' := [(0, .ref (A.1 0)), (1, .int t), (2, .int a), (3, .int b), (4, .int c), (5, .int k), (6, .ref x), (7, .int (nI (N + 0))), (8, .int 0), (9, .int (nI (i + 1)))]) (fun _ z => z) ?_
  refine ax_goto (tgt := 52) dX7_addConstructor_163 (by decide) ?_
  exact kk
set_option maxRecDepth 100000 in
set_option maxHeartbeats 4000000 in
theorem ac_ot (hA : rw_nd A) (d : Nat) (R : rw_S) (h : ax_H) {σ : sp_St} (h3 : R.1 3 = nI σ.1.2.2.1) (h4 : σ.1.2.2.1 ≤ 4) {x : Nat} {f : Nat → Int32} (hx : rw_O A R h x = some (.inl (0, 3, .inl f))) {t a b c k : Int32} {N : Nat} {Q : ax_P}  (hT : po_isT σ (f 0) = true) (kk : AW G mX7_addConstructor (d + 48) 1 3 Q 52 [(0, .ref (A.1 0)), (1, .int t), (2, .int a), (3, .int b), (4, .int c), (5, .int k), (6, .ref x), (7, .int (nI (N + 1))), (8, .int 1), (9, .int (nI (0 + 1)))] [] (rw_O A R h) 1 3) : AW G mX7_addConstructor (d + 48) 1 3 Q 52 [(0, .ref (A.1 0)), (1, .int t), (2, .int a), (3, .int b), (4, .int c), (5, .int k), (6, .ref x), (7, .int (nI N)), (8, .int 1), (9, .int (nI 0))] [] (rw_O A R h) 1 3 := by
  refine ax_iload dX7_addConstructor_52 rfl ?_
  refine ax_iconst (v := 3) dX7_addConstructor_54 (by decide) ?_
  refine ax_icmp_ge (tgt := 166) dX7_addConstructor_55 (by decide) (fun z => absurd z (il_nle 3 0 (by omega))) (fun _ => ?_)
  refine ax_iload dX7_addConstructor_58 rfl ?_
  refine ax_if_eq (tgt := 98) dX7_addConstructor_60 (by decide) (fun z => absurd z (by decide)) (fun _ => ?_)
  refine ax_aload_n dX7_addConstructor_63 rfl ?_
  refine ax_aload dX7_addConstructor_64 rfl ?_
  refine ax_iload dX7_addConstructor_66 rfl ?_
  refine ax_ialdv (x := (f 0)) dX7_addConstructor_68 hx (nI_in (by omega) (by decide)) (by rw [nI_clamp (by omega)]) ?_
  refine ax_callV (b := (A.1 0)) (av := [.int (f 0)]) (rest := []) (mc' := 0) (ms' := 0) dX7_addConstructor_69 rfl lkX7_76 (rw_g0 hA) rfl (Nat.le_of_ble_eq_true rfl) (Nat.le_of_ble_eq_true rfl) (by omega) (by omega) (r_isType hA _ R h (f 0) (σ := σ) h3 h4) (fun E9 h9 q9 => by cases q9.1) (fun v9 h9 q9 => ?_)
  obtain ⟨e9, rfl⟩ := q9
  cases e9
  show AW G mX7_addConstructor (d + 48) 1 3 _ 72 [(0, .ref (A.1 0)), (1, .int t), (2, .int a), (3, .int b), (4, .int c), (5, .int k), (6, .ref x), (7, .int (nI N)), (8, .int 1), (9, .int (nI 0))] [.int (if po_isT σ (f 0) then 1 else 0)] (rw_O A R h) 1 3
  refine ax_if_ne (tgt := 94) dX7_addConstructor_72 (by decide) (fun _ => ?_) (fun z => absurd z (by rw [hT]; decide))
  refine ax_iconst (v := 1) dX7_addConstructor_94 (by decide) ?_
  refine ax_goto (tgt := 99) dX7_addConstructor_95 (by decide) ?_
  refine ax_istore dX7_addConstructor_99 (by decide) ?_
  refine ax_sub (lv' := [(0, .ref (A.1 0)), (1, .int t), (2, .int a), (3, .int b), (4, .int c), (5, .int k), (6, .ref x), (7, .int (nI N)), (8, .int 1), (9, .int (nI 0))]) (fun _ z => z) ?_
  refine ax_iload dX7_addConstructor_101 rfl ?_
  refine ax_if_eq (tgt := 135) dX7_addConstructor_103 (by decide) (fun z => absurd z (by decide)) (fun _ => ?_)
  refine ax_iload dX7_addConstructor_106 rfl ?_
  refine ax_if_eq (tgt := 131) dX7_addConstructor_108 (by decide) (fun _ => ?_) (fun z => absurd (by decide) z)
  refine ax_iconst (v := 1) dX7_addConstructor_131 (by decide) ?_
  refine ax_goto (tgt := 136) dX7_addConstructor_132 (by decide) ?_
  refine ax_istore dX7_addConstructor_136 (by decide) ?_
  refine ax_sub (lv' := [(0, .ref (A.1 0)), (1, .int t), (2, .int a), (3, .int b), (4, .int c), (5, .int k), (6, .ref x), (7, .int (nI N)), (8, .int 1), (9, .int (nI 0))]) (fun _ z => z) ?_
  refine ax_iload dX7_addConstructor_138 rfl ?_
  refine ax_aload_n dX7_addConstructor_140 rfl ?_
  refine ax_aload dX7_addConstructor_141 rfl ?_
  refine ax_iload dX7_addConstructor_143 rfl ?_
  refine ax_ialdv (x := (f 0)) dX7_addConstructor_145 hx (nI_in (by omega) (by decide)) (by rw [nI_clamp (by omega)]) ?_
  refine ax_callV (b := (A.1 0)) (av := [.int (f 0)]) (rest := [.int (nI N)]) (mc' := 0) (ms' := 0) dX7_addConstructor_146 rfl lkX7_76 (rw_g0 hA) rfl (Nat.le_of_ble_eq_true rfl) (Nat.le_of_ble_eq_true rfl) (by omega) (by omega) (r_isType hA _ R h (f 0) (σ := σ) h3 h4) (fun E9 h9 q9 => by cases q9.1) (fun v9 h9 q9 => ?_)
  obtain ⟨e9, rfl⟩ := q9
  cases e9
  show AW G mX7_addConstructor (d + 48) 1 3 _ 149 [(0, .ref (A.1 0)), (1, .int t), (2, .int a), (3, .int b), (4, .int c), (5, .int k), (6, .ref x), (7, .int (nI N)), (8, .int 1), (9, .int (nI 0))] [.int (if po_isT σ (f 0) then 1 else 0), .int (nI N)] (rw_O A R h) 1 3
  refine ax_if_eq (tgt := 156) dX7_addConstructor_149 (by decide) (fun z => absurd z (by rw [hT]; decide)) (fun _ => ?_)
  refine ax_iconst (v := 1) dX7_addConstructor_152 (by decide) ?_
  refine ax_goto (tgt := 157) dX7_addConstructor_153 (by decide) ?_
  refine ax_iadd dX7_addConstructor_157 ?_
  refine ax_top (y := (nI (N + 1))) (nI_add _ 1) ?_
  refine ax_istore dX7_addConstructor_158 (by decide) ?_
  refine ax_sub (lv' := [(0, .ref (A.1 0)), (1, .int t), (2, .int a), (3, .int b), (4, .int c), (5, .int k), (6, .ref x), (7, .int (nI (N + 1))), (8, .int 1), (9, .int (nI 0))]) (fun _ z => z) ?_
  refine ax_iinc (v := (nI (0 + 1))) dX7_addConstructor_160 rfl (nI_1 _) (by decide) ?_
  refine ax_sub (lv' := [(0, .ref (A.1 0)), (1, .int t), (2, .int a), (3, .int b), (4, .int c), (5, .int k), (6, .ref x), (7, .int (nI (N + 1))), (8, .int 1), (9, .int (nI (0 + 1)))]) (fun _ z => z) ?_
  refine ax_goto (tgt := 52) dX7_addConstructor_163 (by decide) ?_
  exact kk
set_option maxRecDepth 100000 in
set_option maxHeartbeats 4000000 in
theorem ac_o9 (hA : rw_nd A) (d : Nat) (R : rw_S) (h : ax_H) {σ : sp_St} (h3 : R.1 3 = nI σ.1.2.2.1) (h4 : σ.1.2.2.1 ≤ 4) {x : Nat} {f : Nat → Int32} (hx : rw_O A R h x = some (.inl (0, 3, .inl f))) {t a b c k : Int32} {N : Nat} {Q : ax_P}  (h9 : f 0 = 9) (hT : po_isT σ (f 0) = false) (kk : AW G mX7_addConstructor (d + 48) 1 3 Q 52 [(0, .ref (A.1 0)), (1, .int t), (2, .int a), (3, .int b), (4, .int c), (5, .int k), (6, .ref x), (7, .int (nI (N + 0))), (8, .int 1), (9, .int (nI (0 + 1)))] [] (rw_O A R h) 1 3) : AW G mX7_addConstructor (d + 48) 1 3 Q 52 [(0, .ref (A.1 0)), (1, .int t), (2, .int a), (3, .int b), (4, .int c), (5, .int k), (6, .ref x), (7, .int (nI N)), (8, .int 1), (9, .int (nI 0))] [] (rw_O A R h) 1 3 := by
  refine ax_iload dX7_addConstructor_52 rfl ?_
  refine ax_iconst (v := 3) dX7_addConstructor_54 (by decide) ?_
  refine ax_icmp_ge (tgt := 166) dX7_addConstructor_55 (by decide) (fun z => absurd z (il_nle 3 0 (by omega))) (fun _ => ?_)
  refine ax_iload dX7_addConstructor_58 rfl ?_
  refine ax_if_eq (tgt := 98) dX7_addConstructor_60 (by decide) (fun z => absurd z (by decide)) (fun _ => ?_)
  refine ax_aload_n dX7_addConstructor_63 rfl ?_
  refine ax_aload dX7_addConstructor_64 rfl ?_
  refine ax_iload dX7_addConstructor_66 rfl ?_
  refine ax_ialdv (x := (f 0)) dX7_addConstructor_68 hx (nI_in (by omega) (by decide)) (by rw [nI_clamp (by omega)]) ?_
  refine ax_callV (b := (A.1 0)) (av := [.int (f 0)]) (rest := []) (mc' := 0) (ms' := 0) dX7_addConstructor_69 rfl lkX7_76 (rw_g0 hA) rfl (Nat.le_of_ble_eq_true rfl) (Nat.le_of_ble_eq_true rfl) (by omega) (by omega) (r_isType hA _ R h (f 0) (σ := σ) h3 h4) (fun E9 h9 q9 => by cases q9.1) (fun v9 h9 q9 => ?_)
  obtain ⟨e9, rfl⟩ := q9
  cases e9
  show AW G mX7_addConstructor (d + 48) 1 3 _ 72 [(0, .ref (A.1 0)), (1, .int t), (2, .int a), (3, .int b), (4, .int c), (5, .int k), (6, .ref x), (7, .int (nI N)), (8, .int 1), (9, .int (nI 0))] [.int (if po_isT σ (f 0) then 1 else 0)] (rw_O A R h) 1 3
  refine ax_if_ne (tgt := 94) dX7_addConstructor_72 (by decide) (fun z => absurd (by rw [hT]; rfl) z) (fun _ => ?_)
  refine ax_aload dX7_addConstructor_75 rfl ?_
  refine ax_iload dX7_addConstructor_77 rfl ?_
  refine ax_ialdv (x := (f 0)) dX7_addConstructor_79 hx (nI_in (by omega) (by decide)) (by rw [nI_clamp (by omega)]) ?_
  refine ax_bipush (v := 9) dX7_addConstructor_80 (by decide) ?_
  refine ax_icmp_eq (tgt := 94) dX7_addConstructor_82 (by decide) (fun _ => ?_) (fun z => absurd h9 z)
  refine ax_iconst (v := 1) dX7_addConstructor_94 (by decide) ?_
  refine ax_goto (tgt := 99) dX7_addConstructor_95 (by decide) ?_
  refine ax_istore dX7_addConstructor_99 (by decide) ?_
  refine ax_sub (lv' := [(0, .ref (A.1 0)), (1, .int t), (2, .int a), (3, .int b), (4, .int c), (5, .int k), (6, .ref x), (7, .int (nI N)), (8, .int 1), (9, .int (nI 0))]) (fun _ z => z) ?_
  refine ax_iload dX7_addConstructor_101 rfl ?_
  refine ax_if_eq (tgt := 135) dX7_addConstructor_103 (by decide) (fun z => absurd z (by decide)) (fun _ => ?_)
  refine ax_iload dX7_addConstructor_106 rfl ?_
  refine ax_if_eq (tgt := 131) dX7_addConstructor_108 (by decide) (fun _ => ?_) (fun z => absurd (by decide) z)
  refine ax_iconst (v := 1) dX7_addConstructor_131 (by decide) ?_
  refine ax_goto (tgt := 136) dX7_addConstructor_132 (by decide) ?_
  refine ax_istore dX7_addConstructor_136 (by decide) ?_
  refine ax_sub (lv' := [(0, .ref (A.1 0)), (1, .int t), (2, .int a), (3, .int b), (4, .int c), (5, .int k), (6, .ref x), (7, .int (nI N)), (8, .int 1), (9, .int (nI 0))]) (fun _ z => z) ?_
  refine ax_iload dX7_addConstructor_138 rfl ?_
  refine ax_aload_n dX7_addConstructor_140 rfl ?_
  refine ax_aload dX7_addConstructor_141 rfl ?_
  refine ax_iload dX7_addConstructor_143 rfl ?_
  refine ax_ialdv (x := (f 0)) dX7_addConstructor_145 hx (nI_in (by omega) (by decide)) (by rw [nI_clamp (by omega)]) ?_
  refine ax_callV (b := (A.1 0)) (av := [.int (f 0)]) (rest := [.int (nI N)]) (mc' := 0) (ms' := 0) dX7_addConstructor_146 rfl lkX7_76 (rw_g0 hA) rfl (Nat.le_of_ble_eq_true rfl) (Nat.le_of_ble_eq_true rfl) (by omega) (by omega) (r_isType hA _ R h (f 0) (σ := σ) h3 h4) (fun E9 h9 q9 => by cases q9.1) (fun v9 h9 q9 => ?_)
  obtain ⟨e9, rfl⟩ := q9
  cases e9
  show AW G mX7_addConstructor (d + 48) 1 3 _ 149 [(0, .ref (A.1 0)), (1, .int t), (2, .int a), (3, .int b), (4, .int c), (5, .int k), (6, .ref x), (7, .int (nI N)), (8, .int 1), (9, .int (nI 0))] [.int (if po_isT σ (f 0) then 1 else 0), .int (nI N)] (rw_O A R h) 1 3
  refine ax_if_eq (tgt := 156) dX7_addConstructor_149 (by decide) (fun _ => ?_) (fun z => absurd (by rw [hT]; rfl) z)
  refine ax_iconst (v := 0) dX7_addConstructor_156 (by decide) ?_
  refine ax_iadd dX7_addConstructor_157 ?_
  refine ax_top (y := (nI (N + 0))) (nI_add _ 0) ?_
  refine ax_istore dX7_addConstructor_158 (by decide) ?_
  refine ax_sub (lv' := [(0, .ref (A.1 0)), (1, .int t), (2, .int a), (3, .int b), (4, .int c), (5, .int k), (6, .ref x), (7, .int (nI (N + 0))), (8, .int 1), (9, .int (nI 0))]) (fun _ z => z) ?_
  refine ax_iinc (v := (nI (0 + 1))) dX7_addConstructor_160 rfl (nI_1 _) (by decide) ?_
  refine ax_sub (lv' := [(0, .ref (A.1 0)), (1, .int t), (2, .int a), (3, .int b), (4, .int c), (5, .int k), (6, .ref x), (7, .int (nI (N + 0))), (8, .int 1), (9, .int (nI (0 + 1)))]) (fun _ z => z) ?_
  refine ax_goto (tgt := 52) dX7_addConstructor_163 (by decide) ?_
  exact kk
set_option maxRecDepth 100000 in
set_option maxHeartbeats 4000000 in
theorem ac_om (hA : rw_nd A) (d : Nat) (R : rw_S) (h : ax_H) {σ : sp_St} (h3 : R.1 3 = nI σ.1.2.2.1) (h4 : σ.1.2.2.1 ≤ 4) {x : Nat} {f : Nat → Int32} (hx : rw_O A R h x = some (.inl (0, 3, .inl f))) {t a b c k : Int32} {N : Nat} {Q : ax_P}  (h9 : ¬ f 0 = 9) (hm : f 0 = -1) (hT : po_isT σ (f 0) = false) (kk : AW G mX7_addConstructor (d + 48) 1 3 Q 52 [(0, .ref (A.1 0)), (1, .int t), (2, .int a), (3, .int b), (4, .int c), (5, .int k), (6, .ref x), (7, .int (nI (N + 0))), (8, .int 1), (9, .int (nI (0 + 1)))] [] (rw_O A R h) 1 3) : AW G mX7_addConstructor (d + 48) 1 3 Q 52 [(0, .ref (A.1 0)), (1, .int t), (2, .int a), (3, .int b), (4, .int c), (5, .int k), (6, .ref x), (7, .int (nI N)), (8, .int 1), (9, .int (nI 0))] [] (rw_O A R h) 1 3 := by
  refine ax_iload dX7_addConstructor_52 rfl ?_
  refine ax_iconst (v := 3) dX7_addConstructor_54 (by decide) ?_
  refine ax_icmp_ge (tgt := 166) dX7_addConstructor_55 (by decide) (fun z => absurd z (il_nle 3 0 (by omega))) (fun _ => ?_)
  refine ax_iload dX7_addConstructor_58 rfl ?_
  refine ax_if_eq (tgt := 98) dX7_addConstructor_60 (by decide) (fun z => absurd z (by decide)) (fun _ => ?_)
  refine ax_aload_n dX7_addConstructor_63 rfl ?_
  refine ax_aload dX7_addConstructor_64 rfl ?_
  refine ax_iload dX7_addConstructor_66 rfl ?_
  refine ax_ialdv (x := (f 0)) dX7_addConstructor_68 hx (nI_in (by omega) (by decide)) (by rw [nI_clamp (by omega)]) ?_
  refine ax_callV (b := (A.1 0)) (av := [.int (f 0)]) (rest := []) (mc' := 0) (ms' := 0) dX7_addConstructor_69 rfl lkX7_76 (rw_g0 hA) rfl (Nat.le_of_ble_eq_true rfl) (Nat.le_of_ble_eq_true rfl) (by omega) (by omega) (r_isType hA _ R h (f 0) (σ := σ) h3 h4) (fun E9 h9 q9 => by cases q9.1) (fun v9 h9 q9 => ?_)
  obtain ⟨e9, rfl⟩ := q9
  cases e9
  show AW G mX7_addConstructor (d + 48) 1 3 _ 72 [(0, .ref (A.1 0)), (1, .int t), (2, .int a), (3, .int b), (4, .int c), (5, .int k), (6, .ref x), (7, .int (nI N)), (8, .int 1), (9, .int (nI 0))] [.int (if po_isT σ (f 0) then 1 else 0)] (rw_O A R h) 1 3
  refine ax_if_ne (tgt := 94) dX7_addConstructor_72 (by decide) (fun z => absurd (by rw [hT]; rfl) z) (fun _ => ?_)
  refine ax_aload dX7_addConstructor_75 rfl ?_
  refine ax_iload dX7_addConstructor_77 rfl ?_
  refine ax_ialdv (x := (f 0)) dX7_addConstructor_79 hx (nI_in (by omega) (by decide)) (by rw [nI_clamp (by omega)]) ?_
  refine ax_bipush (v := 9) dX7_addConstructor_80 (by decide) ?_
  refine ax_icmp_eq (tgt := 94) dX7_addConstructor_82 (by decide) (fun z => absurd z h9) (fun _ => ?_)
  refine ax_aload dX7_addConstructor_85 rfl ?_
  refine ax_iload dX7_addConstructor_87 rfl ?_
  refine ax_ialdv (x := (f 0)) dX7_addConstructor_89 hx (nI_in (by omega) (by decide)) (by rw [nI_clamp (by omega)]) ?_
  refine ax_iconst (v := (-1)) dX7_addConstructor_90 (by decide) ?_
  refine ax_icmp_ne (tgt := 98) dX7_addConstructor_91 (by decide) (fun z => absurd hm z) (fun _ => ?_)
  refine ax_iconst (v := 1) dX7_addConstructor_94 (by decide) ?_
  refine ax_goto (tgt := 99) dX7_addConstructor_95 (by decide) ?_
  refine ax_istore dX7_addConstructor_99 (by decide) ?_
  refine ax_sub (lv' := [(0, .ref (A.1 0)), (1, .int t), (2, .int a), (3, .int b), (4, .int c), (5, .int k), (6, .ref x), (7, .int (nI N)), (8, .int 1), (9, .int (nI 0))]) (fun _ z => z) ?_
  refine ax_iload dX7_addConstructor_101 rfl ?_
  refine ax_if_eq (tgt := 135) dX7_addConstructor_103 (by decide) (fun z => absurd z (by decide)) (fun _ => ?_)
  refine ax_iload dX7_addConstructor_106 rfl ?_
  refine ax_if_eq (tgt := 131) dX7_addConstructor_108 (by decide) (fun _ => ?_) (fun z => absurd (by decide) z)
  refine ax_iconst (v := 1) dX7_addConstructor_131 (by decide) ?_
  refine ax_goto (tgt := 136) dX7_addConstructor_132 (by decide) ?_
  refine ax_istore dX7_addConstructor_136 (by decide) ?_
  refine ax_sub (lv' := [(0, .ref (A.1 0)), (1, .int t), (2, .int a), (3, .int b), (4, .int c), (5, .int k), (6, .ref x), (7, .int (nI N)), (8, .int 1), (9, .int (nI 0))]) (fun _ z => z) ?_
  refine ax_iload dX7_addConstructor_138 rfl ?_
  refine ax_aload_n dX7_addConstructor_140 rfl ?_
  refine ax_aload dX7_addConstructor_141 rfl ?_
  refine ax_iload dX7_addConstructor_143 rfl ?_
  refine ax_ialdv (x := (f 0)) dX7_addConstructor_145 hx (nI_in (by omega) (by decide)) (by rw [nI_clamp (by omega)]) ?_
  refine ax_callV (b := (A.1 0)) (av := [.int (f 0)]) (rest := [.int (nI N)]) (mc' := 0) (ms' := 0) dX7_addConstructor_146 rfl lkX7_76 (rw_g0 hA) rfl (Nat.le_of_ble_eq_true rfl) (Nat.le_of_ble_eq_true rfl) (by omega) (by omega) (r_isType hA _ R h (f 0) (σ := σ) h3 h4) (fun E9 h9 q9 => by cases q9.1) (fun v9 h9 q9 => ?_)
  obtain ⟨e9, rfl⟩ := q9
  cases e9
  show AW G mX7_addConstructor (d + 48) 1 3 _ 149 [(0, .ref (A.1 0)), (1, .int t), (2, .int a), (3, .int b), (4, .int c), (5, .int k), (6, .ref x), (7, .int (nI N)), (8, .int 1), (9, .int (nI 0))] [.int (if po_isT σ (f 0) then 1 else 0), .int (nI N)] (rw_O A R h) 1 3
  refine ax_if_eq (tgt := 156) dX7_addConstructor_149 (by decide) (fun _ => ?_) (fun z => absurd (by rw [hT]; rfl) z)
  refine ax_iconst (v := 0) dX7_addConstructor_156 (by decide) ?_
  refine ax_iadd dX7_addConstructor_157 ?_
  refine ax_top (y := (nI (N + 0))) (nI_add _ 0) ?_
  refine ax_istore dX7_addConstructor_158 (by decide) ?_
  refine ax_sub (lv' := [(0, .ref (A.1 0)), (1, .int t), (2, .int a), (3, .int b), (4, .int c), (5, .int k), (6, .ref x), (7, .int (nI (N + 0))), (8, .int 1), (9, .int (nI 0))]) (fun _ z => z) ?_
  refine ax_iinc (v := (nI (0 + 1))) dX7_addConstructor_160 rfl (nI_1 _) (by decide) ?_
  refine ax_sub (lv' := [(0, .ref (A.1 0)), (1, .int t), (2, .int a), (3, .int b), (4, .int c), (5, .int k), (6, .ref x), (7, .int (nI (N + 0))), (8, .int 1), (9, .int (nI (0 + 1)))]) (fun _ z => z) ?_
  refine ax_goto (tgt := 52) dX7_addConstructor_163 (by decide) ?_
  exact kk
set_option maxRecDepth 100000 in
set_option maxHeartbeats 4000000 in
theorem ac_n0 (hA : rw_nd A) (d : Nat) (R : rw_S) (h : ax_H) {σ : sp_St} (h3 : R.1 3 = nI σ.1.2.2.1) (h4 : σ.1.2.2.1 ≤ 4) {x : Nat} {f : Nat → Int32} (hx : rw_O A R h x = some (.inl (0, 3, .inl f))) {t a b c k : Int32} {N : Nat} {Q : ax_P}  (h9 : ¬ f 0 = 9) (hm : ¬ f 0 = -1) (hT : po_isT σ (f 0) = false) (kk : AW G mX7_addConstructor (d + 48) 1 3 Q 52 [(0, .ref (A.1 0)), (1, .int t), (2, .int a), (3, .int b), (4, .int c), (5, .int k), (6, .ref x), (7, .int (nI (N + 0))), (8, .int 0), (9, .int (nI (0 + 1)))] [] (rw_O A R h) 1 3) : AW G mX7_addConstructor (d + 48) 1 3 Q 52 [(0, .ref (A.1 0)), (1, .int t), (2, .int a), (3, .int b), (4, .int c), (5, .int k), (6, .ref x), (7, .int (nI N)), (8, .int 1), (9, .int (nI 0))] [] (rw_O A R h) 1 3 := by
  refine ax_iload dX7_addConstructor_52 rfl ?_
  refine ax_iconst (v := 3) dX7_addConstructor_54 (by decide) ?_
  refine ax_icmp_ge (tgt := 166) dX7_addConstructor_55 (by decide) (fun z => absurd z (il_nle 3 0 (by omega))) (fun _ => ?_)
  refine ax_iload dX7_addConstructor_58 rfl ?_
  refine ax_if_eq (tgt := 98) dX7_addConstructor_60 (by decide) (fun z => absurd z (by decide)) (fun _ => ?_)
  refine ax_aload_n dX7_addConstructor_63 rfl ?_
  refine ax_aload dX7_addConstructor_64 rfl ?_
  refine ax_iload dX7_addConstructor_66 rfl ?_
  refine ax_ialdv (x := (f 0)) dX7_addConstructor_68 hx (nI_in (by omega) (by decide)) (by rw [nI_clamp (by omega)]) ?_
  refine ax_callV (b := (A.1 0)) (av := [.int (f 0)]) (rest := []) (mc' := 0) (ms' := 0) dX7_addConstructor_69 rfl lkX7_76 (rw_g0 hA) rfl (Nat.le_of_ble_eq_true rfl) (Nat.le_of_ble_eq_true rfl) (by omega) (by omega) (r_isType hA _ R h (f 0) (σ := σ) h3 h4) (fun E9 h9 q9 => by cases q9.1) (fun v9 h9 q9 => ?_)
  obtain ⟨e9, rfl⟩ := q9
  cases e9
  show AW G mX7_addConstructor (d + 48) 1 3 _ 72 [(0, .ref (A.1 0)), (1, .int t), (2, .int a), (3, .int b), (4, .int c), (5, .int k), (6, .ref x), (7, .int (nI N)), (8, .int 1), (9, .int (nI 0))] [.int (if po_isT σ (f 0) then 1 else 0)] (rw_O A R h) 1 3
  refine ax_if_ne (tgt := 94) dX7_addConstructor_72 (by decide) (fun z => absurd (by rw [hT]; rfl) z) (fun _ => ?_)
  refine ax_aload dX7_addConstructor_75 rfl ?_
  refine ax_iload dX7_addConstructor_77 rfl ?_
  refine ax_ialdv (x := (f 0)) dX7_addConstructor_79 hx (nI_in (by omega) (by decide)) (by rw [nI_clamp (by omega)]) ?_
  refine ax_bipush (v := 9) dX7_addConstructor_80 (by decide) ?_
  refine ax_icmp_eq (tgt := 94) dX7_addConstructor_82 (by decide) (fun z => absurd z h9) (fun _ => ?_)
  refine ax_aload dX7_addConstructor_85 rfl ?_
  refine ax_iload dX7_addConstructor_87 rfl ?_
  refine ax_ialdv (x := (f 0)) dX7_addConstructor_89 hx (nI_in (by omega) (by decide)) (by rw [nI_clamp (by omega)]) ?_
  refine ax_iconst (v := (-1)) dX7_addConstructor_90 (by decide) ?_
  refine ax_icmp_ne (tgt := 98) dX7_addConstructor_91 (by decide) (fun _ => ?_) (fun z => absurd z hm)
  refine ax_iconst (v := 0) dX7_addConstructor_98 (by decide) ?_
  refine ax_istore dX7_addConstructor_99 (by decide) ?_
  refine ax_sub (lv' := [(0, .ref (A.1 0)), (1, .int t), (2, .int a), (3, .int b), (4, .int c), (5, .int k), (6, .ref x), (7, .int (nI N)), (8, .int 0), (9, .int (nI 0))]) (fun _ z => z) ?_
  refine ax_iload dX7_addConstructor_101 rfl ?_
  refine ax_if_eq (tgt := 135) dX7_addConstructor_103 (by decide) (fun _ => ?_) (fun z => absurd rfl z)
  refine ax_iconst (v := 0) dX7_addConstructor_135 (by decide) ?_
  refine ax_istore dX7_addConstructor_136 (by decide) ?_
  refine ax_sub (lv' := [(0, .ref (A.1 0)), (1, .int t), (2, .int a), (3, .int b), (4, .int c), (5, .int k), (6, .ref x), (7, .int (nI N)), (8, .int 0), (9, .int (nI 0))]) (fun _ z => z) ?_
  refine ax_iload dX7_addConstructor_138 rfl ?_
  refine ax_aload_n dX7_addConstructor_140 rfl ?_
  refine ax_aload dX7_addConstructor_141 rfl ?_
  refine ax_iload dX7_addConstructor_143 rfl ?_
  refine ax_ialdv (x := (f 0)) dX7_addConstructor_145 hx (nI_in (by omega) (by decide)) (by rw [nI_clamp (by omega)]) ?_
  refine ax_callV (b := (A.1 0)) (av := [.int (f 0)]) (rest := [.int (nI N)]) (mc' := 0) (ms' := 0) dX7_addConstructor_146 rfl lkX7_76 (rw_g0 hA) rfl (Nat.le_of_ble_eq_true rfl) (Nat.le_of_ble_eq_true rfl) (by omega) (by omega) (r_isType hA _ R h (f 0) (σ := σ) h3 h4) (fun E9 h9 q9 => by cases q9.1) (fun v9 h9 q9 => ?_)
  obtain ⟨e9, rfl⟩ := q9
  cases e9
  show AW G mX7_addConstructor (d + 48) 1 3 _ 149 [(0, .ref (A.1 0)), (1, .int t), (2, .int a), (3, .int b), (4, .int c), (5, .int k), (6, .ref x), (7, .int (nI N)), (8, .int 0), (9, .int (nI 0))] [.int (if po_isT σ (f 0) then 1 else 0), .int (nI N)] (rw_O A R h) 1 3
  refine ax_if_eq (tgt := 156) dX7_addConstructor_149 (by decide) (fun _ => ?_) (fun z => absurd (by rw [hT]; rfl) z)
  refine ax_iconst (v := 0) dX7_addConstructor_156 (by decide) ?_
  refine ax_iadd dX7_addConstructor_157 ?_
  refine ax_top (y := (nI (N + 0))) (nI_add _ 0) ?_
  refine ax_istore dX7_addConstructor_158 (by decide) ?_
  refine ax_sub (lv' := [(0, .ref (A.1 0)), (1, .int t), (2, .int a), (3, .int b), (4, .int c), (5, .int k), (6, .ref x), (7, .int (nI (N + 0))), (8, .int 0), (9, .int (nI 0))]) (fun _ z => z) ?_
  refine ax_iinc (v := (nI (0 + 1))) dX7_addConstructor_160 rfl (nI_1 _) (by decide) ?_
  refine ax_sub (lv' := [(0, .ref (A.1 0)), (1, .int t), (2, .int a), (3, .int b), (4, .int c), (5, .int k), (6, .ref x), (7, .int (nI (N + 0))), (8, .int 0), (9, .int (nI (0 + 1)))]) (fun _ z => z) ?_
  refine ax_goto (tgt := 52) dX7_addConstructor_163 (by decide) ?_
  exact kk
set_option maxRecDepth 100000 in
set_option maxHeartbeats 4000000 in
theorem ac_oat (hA : rw_nd A) (d : Nat) (R : rw_S) (h : ax_H) {σ : sp_St} (h3 : R.1 3 = nI σ.1.2.2.1) (h4 : σ.1.2.2.1 ≤ 4) {x : Nat} {f : Nat → Int32} (hx : rw_O A R h x = some (.inl (0, 3, .inl f))) {t a b c k : Int32} {N : Nat} {Q : ax_P} {j : Nat} (hi : j + 1 < 3) (hp : ¬ f j = -1) (hT : po_isT σ (f (j + 1)) = true) (kk : AW G mX7_addConstructor (d + 48) 1 3 Q 52 [(0, .ref (A.1 0)), (1, .int t), (2, .int a), (3, .int b), (4, .int c), (5, .int k), (6, .ref x), (7, .int (nI (N + 1))), (8, .int 1), (9, .int (nI ((j + 1) + 1)))] [] (rw_O A R h) 1 3) : AW G mX7_addConstructor (d + 48) 1 3 Q 52 [(0, .ref (A.1 0)), (1, .int t), (2, .int a), (3, .int b), (4, .int c), (5, .int k), (6, .ref x), (7, .int (nI N)), (8, .int 1), (9, .int (nI (j + 1)))] [] (rw_O A R h) 1 3 := by
  refine ax_iload dX7_addConstructor_52 rfl ?_
  refine ax_iconst (v := 3) dX7_addConstructor_54 (by decide) ?_
  refine ax_icmp_ge (tgt := 166) dX7_addConstructor_55 (by decide) (fun z => absurd z (il_nle 3 (j + 1) (by omega))) (fun _ => ?_)
  refine ax_iload dX7_addConstructor_58 rfl ?_
  refine ax_if_eq (tgt := 98) dX7_addConstructor_60 (by decide) (fun z => absurd z (by decide)) (fun _ => ?_)
  refine ax_aload_n dX7_addConstructor_63 rfl ?_
  refine ax_aload dX7_addConstructor_64 rfl ?_
  refine ax_iload dX7_addConstructor_66 rfl ?_
  refine ax_ialdv (x := (f (j + 1))) dX7_addConstructor_68 hx (nI_in (by omega) (by decide)) (by rw [nI_clamp (by omega)]) ?_
  refine ax_callV (b := (A.1 0)) (av := [.int (f (j + 1))]) (rest := []) (mc' := 0) (ms' := 0) dX7_addConstructor_69 rfl lkX7_76 (rw_g0 hA) rfl (Nat.le_of_ble_eq_true rfl) (Nat.le_of_ble_eq_true rfl) (by omega) (by omega) (r_isType hA _ R h (f (j + 1)) (σ := σ) h3 h4) (fun E9 h9 q9 => by cases q9.1) (fun v9 h9 q9 => ?_)
  obtain ⟨e9, rfl⟩ := q9
  cases e9
  show AW G mX7_addConstructor (d + 48) 1 3 _ 72 [(0, .ref (A.1 0)), (1, .int t), (2, .int a), (3, .int b), (4, .int c), (5, .int k), (6, .ref x), (7, .int (nI N)), (8, .int 1), (9, .int (nI (j + 1)))] [.int (if po_isT σ (f (j + 1)) then 1 else 0)] (rw_O A R h) 1 3
  refine ax_if_ne (tgt := 94) dX7_addConstructor_72 (by decide) (fun _ => ?_) (fun z => absurd z (by rw [hT]; decide))
  refine ax_iconst (v := 1) dX7_addConstructor_94 (by decide) ?_
  refine ax_goto (tgt := 99) dX7_addConstructor_95 (by decide) ?_
  refine ax_istore dX7_addConstructor_99 (by decide) ?_
  refine ax_sub (lv' := [(0, .ref (A.1 0)), (1, .int t), (2, .int a), (3, .int b), (4, .int c), (5, .int k), (6, .ref x), (7, .int (nI N)), (8, .int 1), (9, .int (nI (j + 1)))]) (fun _ z => z) ?_
  refine ax_iload dX7_addConstructor_101 rfl ?_
  refine ax_if_eq (tgt := 135) dX7_addConstructor_103 (by decide) (fun z => absurd z (by decide)) (fun _ => ?_)
  refine ax_iload dX7_addConstructor_106 rfl ?_
  refine ax_if_eq (tgt := 131) dX7_addConstructor_108 (by decide) (fun z => absurd z (il_ne (j + 1) 0 (by omega))) (fun _ => ?_)
  refine ax_aload dX7_addConstructor_111 rfl ?_
  refine ax_iload dX7_addConstructor_113 rfl ?_
  refine ax_iconst (v := 1) dX7_addConstructor_115 (by decide) ?_
  refine ax_isub dX7_addConstructor_116 ?_
  refine ax_top (y := (nI j)) ((nI_pred _)) ?_
  refine ax_ialdv (x := (f j)) dX7_addConstructor_117 hx (nI_in (by omega) (by decide)) (by rw [nI_clamp (by omega)]) ?_
  refine ax_iconst (v := (-1)) dX7_addConstructor_118 (by decide) ?_
  refine ax_icmp_ne (tgt := 131) dX7_addConstructor_119 (by decide) (fun _ => ?_) (fun z => absurd z hp)
  refine ax_iconst (v := 1) dX7_addConstructor_131 (by decide) ?_
  refine ax_goto (tgt := 136) dX7_addConstructor_132 (by decide) ?_
  refine ax_istore dX7_addConstructor_136 (by decide) ?_
  refine ax_sub (lv' := [(0, .ref (A.1 0)), (1, .int t), (2, .int a), (3, .int b), (4, .int c), (5, .int k), (6, .ref x), (7, .int (nI N)), (8, .int 1), (9, .int (nI (j + 1)))]) (fun _ z => z) ?_
  refine ax_iload dX7_addConstructor_138 rfl ?_
  refine ax_aload_n dX7_addConstructor_140 rfl ?_
  refine ax_aload dX7_addConstructor_141 rfl ?_
  refine ax_iload dX7_addConstructor_143 rfl ?_
  refine ax_ialdv (x := (f (j + 1))) dX7_addConstructor_145 hx (nI_in (by omega) (by decide)) (by rw [nI_clamp (by omega)]) ?_
  refine ax_callV (b := (A.1 0)) (av := [.int (f (j + 1))]) (rest := [.int (nI N)]) (mc' := 0) (ms' := 0) dX7_addConstructor_146 rfl lkX7_76 (rw_g0 hA) rfl (Nat.le_of_ble_eq_true rfl) (Nat.le_of_ble_eq_true rfl) (by omega) (by omega) (r_isType hA _ R h (f (j + 1)) (σ := σ) h3 h4) (fun E9 h9 q9 => by cases q9.1) (fun v9 h9 q9 => ?_)
  obtain ⟨e9, rfl⟩ := q9
  cases e9
  show AW G mX7_addConstructor (d + 48) 1 3 _ 149 [(0, .ref (A.1 0)), (1, .int t), (2, .int a), (3, .int b), (4, .int c), (5, .int k), (6, .ref x), (7, .int (nI N)), (8, .int 1), (9, .int (nI (j + 1)))] [.int (if po_isT σ (f (j + 1)) then 1 else 0), .int (nI N)] (rw_O A R h) 1 3
  refine ax_if_eq (tgt := 156) dX7_addConstructor_149 (by decide) (fun z => absurd z (by rw [hT]; decide)) (fun _ => ?_)
  refine ax_iconst (v := 1) dX7_addConstructor_152 (by decide) ?_
  refine ax_goto (tgt := 157) dX7_addConstructor_153 (by decide) ?_
  refine ax_iadd dX7_addConstructor_157 ?_
  refine ax_top (y := (nI (N + 1))) (nI_add _ 1) ?_
  refine ax_istore dX7_addConstructor_158 (by decide) ?_
  refine ax_sub (lv' := [(0, .ref (A.1 0)), (1, .int t), (2, .int a), (3, .int b), (4, .int c), (5, .int k), (6, .ref x), (7, .int (nI (N + 1))), (8, .int 1), (9, .int (nI (j + 1)))]) (fun _ z => z) ?_
  refine ax_iinc (v := (nI ((j + 1) + 1))) dX7_addConstructor_160 rfl (nI_1 _) (by decide) ?_
  refine ax_sub (lv' := [(0, .ref (A.1 0)), (1, .int t), (2, .int a), (3, .int b), (4, .int c), (5, .int k), (6, .ref x), (7, .int (nI (N + 1))), (8, .int 1), (9, .int (nI ((j + 1) + 1)))]) (fun _ z => z) ?_
  refine ax_goto (tgt := 52) dX7_addConstructor_163 (by decide) ?_
  exact kk
set_option maxRecDepth 100000 in
set_option maxHeartbeats 4000000 in
theorem ac_oa9 (hA : rw_nd A) (d : Nat) (R : rw_S) (h : ax_H) {σ : sp_St} (h3 : R.1 3 = nI σ.1.2.2.1) (h4 : σ.1.2.2.1 ≤ 4) {x : Nat} {f : Nat → Int32} (hx : rw_O A R h x = some (.inl (0, 3, .inl f))) {t a b c k : Int32} {N : Nat} {Q : ax_P} {j : Nat} (hi : j + 1 < 3) (h9 : f (j + 1) = 9) (hp : ¬ f j = -1) (hT : po_isT σ (f (j + 1)) = false) (kk : AW G mX7_addConstructor (d + 48) 1 3 Q 52 [(0, .ref (A.1 0)), (1, .int t), (2, .int a), (3, .int b), (4, .int c), (5, .int k), (6, .ref x), (7, .int (nI (N + 0))), (8, .int 1), (9, .int (nI ((j + 1) + 1)))] [] (rw_O A R h) 1 3) : AW G mX7_addConstructor (d + 48) 1 3 Q 52 [(0, .ref (A.1 0)), (1, .int t), (2, .int a), (3, .int b), (4, .int c), (5, .int k), (6, .ref x), (7, .int (nI N)), (8, .int 1), (9, .int (nI (j + 1)))] [] (rw_O A R h) 1 3 := by
  refine ax_iload dX7_addConstructor_52 rfl ?_
  refine ax_iconst (v := 3) dX7_addConstructor_54 (by decide) ?_
  refine ax_icmp_ge (tgt := 166) dX7_addConstructor_55 (by decide) (fun z => absurd z (il_nle 3 (j + 1) (by omega))) (fun _ => ?_)
  refine ax_iload dX7_addConstructor_58 rfl ?_
  refine ax_if_eq (tgt := 98) dX7_addConstructor_60 (by decide) (fun z => absurd z (by decide)) (fun _ => ?_)
  refine ax_aload_n dX7_addConstructor_63 rfl ?_
  refine ax_aload dX7_addConstructor_64 rfl ?_
  refine ax_iload dX7_addConstructor_66 rfl ?_
  refine ax_ialdv (x := (f (j + 1))) dX7_addConstructor_68 hx (nI_in (by omega) (by decide)) (by rw [nI_clamp (by omega)]) ?_
  refine ax_callV (b := (A.1 0)) (av := [.int (f (j + 1))]) (rest := []) (mc' := 0) (ms' := 0) dX7_addConstructor_69 rfl lkX7_76 (rw_g0 hA) rfl (Nat.le_of_ble_eq_true rfl) (Nat.le_of_ble_eq_true rfl) (by omega) (by omega) (r_isType hA _ R h (f (j + 1)) (σ := σ) h3 h4) (fun E9 h9 q9 => by cases q9.1) (fun v9 h9 q9 => ?_)
  obtain ⟨e9, rfl⟩ := q9
  cases e9
  show AW G mX7_addConstructor (d + 48) 1 3 _ 72 [(0, .ref (A.1 0)), (1, .int t), (2, .int a), (3, .int b), (4, .int c), (5, .int k), (6, .ref x), (7, .int (nI N)), (8, .int 1), (9, .int (nI (j + 1)))] [.int (if po_isT σ (f (j + 1)) then 1 else 0)] (rw_O A R h) 1 3
  refine ax_if_ne (tgt := 94) dX7_addConstructor_72 (by decide) (fun z => absurd (by rw [hT]; rfl) z) (fun _ => ?_)
  refine ax_aload dX7_addConstructor_75 rfl ?_
  refine ax_iload dX7_addConstructor_77 rfl ?_
  refine ax_ialdv (x := (f (j + 1))) dX7_addConstructor_79 hx (nI_in (by omega) (by decide)) (by rw [nI_clamp (by omega)]) ?_
  refine ax_bipush (v := 9) dX7_addConstructor_80 (by decide) ?_
  refine ax_icmp_eq (tgt := 94) dX7_addConstructor_82 (by decide) (fun _ => ?_) (fun z => absurd h9 z)
  refine ax_iconst (v := 1) dX7_addConstructor_94 (by decide) ?_
  refine ax_goto (tgt := 99) dX7_addConstructor_95 (by decide) ?_
  refine ax_istore dX7_addConstructor_99 (by decide) ?_
  refine ax_sub (lv' := [(0, .ref (A.1 0)), (1, .int t), (2, .int a), (3, .int b), (4, .int c), (5, .int k), (6, .ref x), (7, .int (nI N)), (8, .int 1), (9, .int (nI (j + 1)))]) (fun _ z => z) ?_
  refine ax_iload dX7_addConstructor_101 rfl ?_
  refine ax_if_eq (tgt := 135) dX7_addConstructor_103 (by decide) (fun z => absurd z (by decide)) (fun _ => ?_)
  refine ax_iload dX7_addConstructor_106 rfl ?_
  refine ax_if_eq (tgt := 131) dX7_addConstructor_108 (by decide) (fun z => absurd z (il_ne (j + 1) 0 (by omega))) (fun _ => ?_)
  refine ax_aload dX7_addConstructor_111 rfl ?_
  refine ax_iload dX7_addConstructor_113 rfl ?_
  refine ax_iconst (v := 1) dX7_addConstructor_115 (by decide) ?_
  refine ax_isub dX7_addConstructor_116 ?_
  refine ax_top (y := (nI j)) ((nI_pred _)) ?_
  refine ax_ialdv (x := (f j)) dX7_addConstructor_117 hx (nI_in (by omega) (by decide)) (by rw [nI_clamp (by omega)]) ?_
  refine ax_iconst (v := (-1)) dX7_addConstructor_118 (by decide) ?_
  refine ax_icmp_ne (tgt := 131) dX7_addConstructor_119 (by decide) (fun _ => ?_) (fun z => absurd z hp)
  refine ax_iconst (v := 1) dX7_addConstructor_131 (by decide) ?_
  refine ax_goto (tgt := 136) dX7_addConstructor_132 (by decide) ?_
  refine ax_istore dX7_addConstructor_136 (by decide) ?_
  refine ax_sub (lv' := [(0, .ref (A.1 0)), (1, .int t), (2, .int a), (3, .int b), (4, .int c), (5, .int k), (6, .ref x), (7, .int (nI N)), (8, .int 1), (9, .int (nI (j + 1)))]) (fun _ z => z) ?_
  refine ax_iload dX7_addConstructor_138 rfl ?_
  refine ax_aload_n dX7_addConstructor_140 rfl ?_
  refine ax_aload dX7_addConstructor_141 rfl ?_
  refine ax_iload dX7_addConstructor_143 rfl ?_
  refine ax_ialdv (x := (f (j + 1))) dX7_addConstructor_145 hx (nI_in (by omega) (by decide)) (by rw [nI_clamp (by omega)]) ?_
  refine ax_callV (b := (A.1 0)) (av := [.int (f (j + 1))]) (rest := [.int (nI N)]) (mc' := 0) (ms' := 0) dX7_addConstructor_146 rfl lkX7_76 (rw_g0 hA) rfl (Nat.le_of_ble_eq_true rfl) (Nat.le_of_ble_eq_true rfl) (by omega) (by omega) (r_isType hA _ R h (f (j + 1)) (σ := σ) h3 h4) (fun E9 h9 q9 => by cases q9.1) (fun v9 h9 q9 => ?_)
  obtain ⟨e9, rfl⟩ := q9
  cases e9
  show AW G mX7_addConstructor (d + 48) 1 3 _ 149 [(0, .ref (A.1 0)), (1, .int t), (2, .int a), (3, .int b), (4, .int c), (5, .int k), (6, .ref x), (7, .int (nI N)), (8, .int 1), (9, .int (nI (j + 1)))] [.int (if po_isT σ (f (j + 1)) then 1 else 0), .int (nI N)] (rw_O A R h) 1 3
  refine ax_if_eq (tgt := 156) dX7_addConstructor_149 (by decide) (fun _ => ?_) (fun z => absurd (by rw [hT]; rfl) z)
  refine ax_iconst (v := 0) dX7_addConstructor_156 (by decide) ?_
  refine ax_iadd dX7_addConstructor_157 ?_
  refine ax_top (y := (nI (N + 0))) (nI_add _ 0) ?_
  refine ax_istore dX7_addConstructor_158 (by decide) ?_
  refine ax_sub (lv' := [(0, .ref (A.1 0)), (1, .int t), (2, .int a), (3, .int b), (4, .int c), (5, .int k), (6, .ref x), (7, .int (nI (N + 0))), (8, .int 1), (9, .int (nI (j + 1)))]) (fun _ z => z) ?_
  refine ax_iinc (v := (nI ((j + 1) + 1))) dX7_addConstructor_160 rfl (nI_1 _) (by decide) ?_
  refine ax_sub (lv' := [(0, .ref (A.1 0)), (1, .int t), (2, .int a), (3, .int b), (4, .int c), (5, .int k), (6, .ref x), (7, .int (nI (N + 0))), (8, .int 1), (9, .int (nI ((j + 1) + 1)))]) (fun _ z => z) ?_
  refine ax_goto (tgt := 52) dX7_addConstructor_163 (by decide) ?_
  exact kk
set_option maxRecDepth 100000 in
set_option maxHeartbeats 4000000 in
theorem ac_oam (hA : rw_nd A) (d : Nat) (R : rw_S) (h : ax_H) {σ : sp_St} (h3 : R.1 3 = nI σ.1.2.2.1) (h4 : σ.1.2.2.1 ≤ 4) {x : Nat} {f : Nat → Int32} (hx : rw_O A R h x = some (.inl (0, 3, .inl f))) {t a b c k : Int32} {N : Nat} {Q : ax_P} {j : Nat} (hi : j + 1 < 3) (h9 : ¬ f (j + 1) = 9) (hm : f (j + 1) = -1) (hp : ¬ f j = -1) (hT : po_isT σ (f (j + 1)) = false) (kk : AW G mX7_addConstructor (d + 48) 1 3 Q 52 [(0, .ref (A.1 0)), (1, .int t), (2, .int a), (3, .int b), (4, .int c), (5, .int k), (6, .ref x), (7, .int (nI (N + 0))), (8, .int 1), (9, .int (nI ((j + 1) + 1)))] [] (rw_O A R h) 1 3) : AW G mX7_addConstructor (d + 48) 1 3 Q 52 [(0, .ref (A.1 0)), (1, .int t), (2, .int a), (3, .int b), (4, .int c), (5, .int k), (6, .ref x), (7, .int (nI N)), (8, .int 1), (9, .int (nI (j + 1)))] [] (rw_O A R h) 1 3 := by
  refine ax_iload dX7_addConstructor_52 rfl ?_
  refine ax_iconst (v := 3) dX7_addConstructor_54 (by decide) ?_
  refine ax_icmp_ge (tgt := 166) dX7_addConstructor_55 (by decide) (fun z => absurd z (il_nle 3 (j + 1) (by omega))) (fun _ => ?_)
  refine ax_iload dX7_addConstructor_58 rfl ?_
  refine ax_if_eq (tgt := 98) dX7_addConstructor_60 (by decide) (fun z => absurd z (by decide)) (fun _ => ?_)
  refine ax_aload_n dX7_addConstructor_63 rfl ?_
  refine ax_aload dX7_addConstructor_64 rfl ?_
  refine ax_iload dX7_addConstructor_66 rfl ?_
  refine ax_ialdv (x := (f (j + 1))) dX7_addConstructor_68 hx (nI_in (by omega) (by decide)) (by rw [nI_clamp (by omega)]) ?_
  refine ax_callV (b := (A.1 0)) (av := [.int (f (j + 1))]) (rest := []) (mc' := 0) (ms' := 0) dX7_addConstructor_69 rfl lkX7_76 (rw_g0 hA) rfl (Nat.le_of_ble_eq_true rfl) (Nat.le_of_ble_eq_true rfl) (by omega) (by omega) (r_isType hA _ R h (f (j + 1)) (σ := σ) h3 h4) (fun E9 h9 q9 => by cases q9.1) (fun v9 h9 q9 => ?_)
  obtain ⟨e9, rfl⟩ := q9
  cases e9
  show AW G mX7_addConstructor (d + 48) 1 3 _ 72 [(0, .ref (A.1 0)), (1, .int t), (2, .int a), (3, .int b), (4, .int c), (5, .int k), (6, .ref x), (7, .int (nI N)), (8, .int 1), (9, .int (nI (j + 1)))] [.int (if po_isT σ (f (j + 1)) then 1 else 0)] (rw_O A R h) 1 3
  refine ax_if_ne (tgt := 94) dX7_addConstructor_72 (by decide) (fun z => absurd (by rw [hT]; rfl) z) (fun _ => ?_)
  refine ax_aload dX7_addConstructor_75 rfl ?_
  refine ax_iload dX7_addConstructor_77 rfl ?_
  refine ax_ialdv (x := (f (j + 1))) dX7_addConstructor_79 hx (nI_in (by omega) (by decide)) (by rw [nI_clamp (by omega)]) ?_
  refine ax_bipush (v := 9) dX7_addConstructor_80 (by decide) ?_
  refine ax_icmp_eq (tgt := 94) dX7_addConstructor_82 (by decide) (fun z => absurd z h9) (fun _ => ?_)
  refine ax_aload dX7_addConstructor_85 rfl ?_
  refine ax_iload dX7_addConstructor_87 rfl ?_
  refine ax_ialdv (x := (f (j + 1))) dX7_addConstructor_89 hx (nI_in (by omega) (by decide)) (by rw [nI_clamp (by omega)]) ?_
  refine ax_iconst (v := (-1)) dX7_addConstructor_90 (by decide) ?_
  refine ax_icmp_ne (tgt := 98) dX7_addConstructor_91 (by decide) (fun z => absurd hm z) (fun _ => ?_)
  refine ax_iconst (v := 1) dX7_addConstructor_94 (by decide) ?_
  refine ax_goto (tgt := 99) dX7_addConstructor_95 (by decide) ?_
  refine ax_istore dX7_addConstructor_99 (by decide) ?_
  refine ax_sub (lv' := [(0, .ref (A.1 0)), (1, .int t), (2, .int a), (3, .int b), (4, .int c), (5, .int k), (6, .ref x), (7, .int (nI N)), (8, .int 1), (9, .int (nI (j + 1)))]) (fun _ z => z) ?_
  refine ax_iload dX7_addConstructor_101 rfl ?_
  refine ax_if_eq (tgt := 135) dX7_addConstructor_103 (by decide) (fun z => absurd z (by decide)) (fun _ => ?_)
  refine ax_iload dX7_addConstructor_106 rfl ?_
  refine ax_if_eq (tgt := 131) dX7_addConstructor_108 (by decide) (fun z => absurd z (il_ne (j + 1) 0 (by omega))) (fun _ => ?_)
  refine ax_aload dX7_addConstructor_111 rfl ?_
  refine ax_iload dX7_addConstructor_113 rfl ?_
  refine ax_iconst (v := 1) dX7_addConstructor_115 (by decide) ?_
  refine ax_isub dX7_addConstructor_116 ?_
  refine ax_top (y := (nI j)) ((nI_pred _)) ?_
  refine ax_ialdv (x := (f j)) dX7_addConstructor_117 hx (nI_in (by omega) (by decide)) (by rw [nI_clamp (by omega)]) ?_
  refine ax_iconst (v := (-1)) dX7_addConstructor_118 (by decide) ?_
  refine ax_icmp_ne (tgt := 131) dX7_addConstructor_119 (by decide) (fun _ => ?_) (fun z => absurd z hp)
  refine ax_iconst (v := 1) dX7_addConstructor_131 (by decide) ?_
  refine ax_goto (tgt := 136) dX7_addConstructor_132 (by decide) ?_
  refine ax_istore dX7_addConstructor_136 (by decide) ?_
  refine ax_sub (lv' := [(0, .ref (A.1 0)), (1, .int t), (2, .int a), (3, .int b), (4, .int c), (5, .int k), (6, .ref x), (7, .int (nI N)), (8, .int 1), (9, .int (nI (j + 1)))]) (fun _ z => z) ?_
  refine ax_iload dX7_addConstructor_138 rfl ?_
  refine ax_aload_n dX7_addConstructor_140 rfl ?_
  refine ax_aload dX7_addConstructor_141 rfl ?_
  refine ax_iload dX7_addConstructor_143 rfl ?_
  refine ax_ialdv (x := (f (j + 1))) dX7_addConstructor_145 hx (nI_in (by omega) (by decide)) (by rw [nI_clamp (by omega)]) ?_
  refine ax_callV (b := (A.1 0)) (av := [.int (f (j + 1))]) (rest := [.int (nI N)]) (mc' := 0) (ms' := 0) dX7_addConstructor_146 rfl lkX7_76 (rw_g0 hA) rfl (Nat.le_of_ble_eq_true rfl) (Nat.le_of_ble_eq_true rfl) (by omega) (by omega) (r_isType hA _ R h (f (j + 1)) (σ := σ) h3 h4) (fun E9 h9 q9 => by cases q9.1) (fun v9 h9 q9 => ?_)
  obtain ⟨e9, rfl⟩ := q9
  cases e9
  show AW G mX7_addConstructor (d + 48) 1 3 _ 149 [(0, .ref (A.1 0)), (1, .int t), (2, .int a), (3, .int b), (4, .int c), (5, .int k), (6, .ref x), (7, .int (nI N)), (8, .int 1), (9, .int (nI (j + 1)))] [.int (if po_isT σ (f (j + 1)) then 1 else 0), .int (nI N)] (rw_O A R h) 1 3
  refine ax_if_eq (tgt := 156) dX7_addConstructor_149 (by decide) (fun _ => ?_) (fun z => absurd (by rw [hT]; rfl) z)
  refine ax_iconst (v := 0) dX7_addConstructor_156 (by decide) ?_
  refine ax_iadd dX7_addConstructor_157 ?_
  refine ax_top (y := (nI (N + 0))) (nI_add _ 0) ?_
  refine ax_istore dX7_addConstructor_158 (by decide) ?_
  refine ax_sub (lv' := [(0, .ref (A.1 0)), (1, .int t), (2, .int a), (3, .int b), (4, .int c), (5, .int k), (6, .ref x), (7, .int (nI (N + 0))), (8, .int 1), (9, .int (nI (j + 1)))]) (fun _ z => z) ?_
  refine ax_iinc (v := (nI ((j + 1) + 1))) dX7_addConstructor_160 rfl (nI_1 _) (by decide) ?_
  refine ax_sub (lv' := [(0, .ref (A.1 0)), (1, .int t), (2, .int a), (3, .int b), (4, .int c), (5, .int k), (6, .ref x), (7, .int (nI (N + 0))), (8, .int 1), (9, .int (nI ((j + 1) + 1)))]) (fun _ z => z) ?_
  refine ax_goto (tgt := 52) dX7_addConstructor_163 (by decide) ?_
  exact kk
set_option maxRecDepth 100000 in
set_option maxHeartbeats 4000000 in
theorem ac_obt (hA : rw_nd A) (d : Nat) (R : rw_S) (h : ax_H) {σ : sp_St} (h3 : R.1 3 = nI σ.1.2.2.1) (h4 : σ.1.2.2.1 ≤ 4) {x : Nat} {f : Nat → Int32} (hx : rw_O A R h x = some (.inl (0, 3, .inl f))) {t a b c k : Int32} {N : Nat} {Q : ax_P} {j : Nat} (hi : j + 1 < 3) (hp : f j = -1) (hm : f (j + 1) = -1) (hT : po_isT σ (f (j + 1)) = true) (kk : AW G mX7_addConstructor (d + 48) 1 3 Q 52 [(0, .ref (A.1 0)), (1, .int t), (2, .int a), (3, .int b), (4, .int c), (5, .int k), (6, .ref x), (7, .int (nI (N + 1))), (8, .int 1), (9, .int (nI ((j + 1) + 1)))] [] (rw_O A R h) 1 3) : AW G mX7_addConstructor (d + 48) 1 3 Q 52 [(0, .ref (A.1 0)), (1, .int t), (2, .int a), (3, .int b), (4, .int c), (5, .int k), (6, .ref x), (7, .int (nI N)), (8, .int 1), (9, .int (nI (j + 1)))] [] (rw_O A R h) 1 3 := by
  refine ax_iload dX7_addConstructor_52 rfl ?_
  refine ax_iconst (v := 3) dX7_addConstructor_54 (by decide) ?_
  refine ax_icmp_ge (tgt := 166) dX7_addConstructor_55 (by decide) (fun z => absurd z (il_nle 3 (j + 1) (by omega))) (fun _ => ?_)
  refine ax_iload dX7_addConstructor_58 rfl ?_
  refine ax_if_eq (tgt := 98) dX7_addConstructor_60 (by decide) (fun z => absurd z (by decide)) (fun _ => ?_)
  refine ax_aload_n dX7_addConstructor_63 rfl ?_
  refine ax_aload dX7_addConstructor_64 rfl ?_
  refine ax_iload dX7_addConstructor_66 rfl ?_
  refine ax_ialdv (x := (f (j + 1))) dX7_addConstructor_68 hx (nI_in (by omega) (by decide)) (by rw [nI_clamp (by omega)]) ?_
  refine ax_callV (b := (A.1 0)) (av := [.int (f (j + 1))]) (rest := []) (mc' := 0) (ms' := 0) dX7_addConstructor_69 rfl lkX7_76 (rw_g0 hA) rfl (Nat.le_of_ble_eq_true rfl) (Nat.le_of_ble_eq_true rfl) (by omega) (by omega) (r_isType hA _ R h (f (j + 1)) (σ := σ) h3 h4) (fun E9 h9 q9 => by cases q9.1) (fun v9 h9 q9 => ?_)
  obtain ⟨e9, rfl⟩ := q9
  cases e9
  show AW G mX7_addConstructor (d + 48) 1 3 _ 72 [(0, .ref (A.1 0)), (1, .int t), (2, .int a), (3, .int b), (4, .int c), (5, .int k), (6, .ref x), (7, .int (nI N)), (8, .int 1), (9, .int (nI (j + 1)))] [.int (if po_isT σ (f (j + 1)) then 1 else 0)] (rw_O A R h) 1 3
  refine ax_if_ne (tgt := 94) dX7_addConstructor_72 (by decide) (fun _ => ?_) (fun z => absurd z (by rw [hT]; decide))
  refine ax_iconst (v := 1) dX7_addConstructor_94 (by decide) ?_
  refine ax_goto (tgt := 99) dX7_addConstructor_95 (by decide) ?_
  refine ax_istore dX7_addConstructor_99 (by decide) ?_
  refine ax_sub (lv' := [(0, .ref (A.1 0)), (1, .int t), (2, .int a), (3, .int b), (4, .int c), (5, .int k), (6, .ref x), (7, .int (nI N)), (8, .int 1), (9, .int (nI (j + 1)))]) (fun _ z => z) ?_
  refine ax_iload dX7_addConstructor_101 rfl ?_
  refine ax_if_eq (tgt := 135) dX7_addConstructor_103 (by decide) (fun z => absurd z (by decide)) (fun _ => ?_)
  refine ax_iload dX7_addConstructor_106 rfl ?_
  refine ax_if_eq (tgt := 131) dX7_addConstructor_108 (by decide) (fun z => absurd z (il_ne (j + 1) 0 (by omega))) (fun _ => ?_)
  refine ax_aload dX7_addConstructor_111 rfl ?_
  refine ax_iload dX7_addConstructor_113 rfl ?_
  refine ax_iconst (v := 1) dX7_addConstructor_115 (by decide) ?_
  refine ax_isub dX7_addConstructor_116 ?_
  refine ax_top (y := (nI j)) ((nI_pred _)) ?_
  refine ax_ialdv (x := (f j)) dX7_addConstructor_117 hx (nI_in (by omega) (by decide)) (by rw [nI_clamp (by omega)]) ?_
  refine ax_iconst (v := (-1)) dX7_addConstructor_118 (by decide) ?_
  refine ax_icmp_ne (tgt := 131) dX7_addConstructor_119 (by decide) (fun z => absurd hp z) (fun _ => ?_)
  refine ax_aload dX7_addConstructor_122 rfl ?_
  refine ax_iload dX7_addConstructor_124 rfl ?_
  refine ax_ialdv (x := (f (j + 1))) dX7_addConstructor_126 hx (nI_in (by omega) (by decide)) (by rw [nI_clamp (by omega)]) ?_
  refine ax_iconst (v := (-1)) dX7_addConstructor_127 (by decide) ?_
  refine ax_icmp_ne (tgt := 135) dX7_addConstructor_128 (by decide) (fun z => absurd hm z) (fun _ => ?_)
  refine ax_iconst (v := 1) dX7_addConstructor_131 (by decide) ?_
  refine ax_goto (tgt := 136) dX7_addConstructor_132 (by decide) ?_
  refine ax_istore dX7_addConstructor_136 (by decide) ?_
  refine ax_sub (lv' := [(0, .ref (A.1 0)), (1, .int t), (2, .int a), (3, .int b), (4, .int c), (5, .int k), (6, .ref x), (7, .int (nI N)), (8, .int 1), (9, .int (nI (j + 1)))]) (fun _ z => z) ?_
  refine ax_iload dX7_addConstructor_138 rfl ?_
  refine ax_aload_n dX7_addConstructor_140 rfl ?_
  refine ax_aload dX7_addConstructor_141 rfl ?_
  refine ax_iload dX7_addConstructor_143 rfl ?_
  refine ax_ialdv (x := (f (j + 1))) dX7_addConstructor_145 hx (nI_in (by omega) (by decide)) (by rw [nI_clamp (by omega)]) ?_
  refine ax_callV (b := (A.1 0)) (av := [.int (f (j + 1))]) (rest := [.int (nI N)]) (mc' := 0) (ms' := 0) dX7_addConstructor_146 rfl lkX7_76 (rw_g0 hA) rfl (Nat.le_of_ble_eq_true rfl) (Nat.le_of_ble_eq_true rfl) (by omega) (by omega) (r_isType hA _ R h (f (j + 1)) (σ := σ) h3 h4) (fun E9 h9 q9 => by cases q9.1) (fun v9 h9 q9 => ?_)
  obtain ⟨e9, rfl⟩ := q9
  cases e9
  show AW G mX7_addConstructor (d + 48) 1 3 _ 149 [(0, .ref (A.1 0)), (1, .int t), (2, .int a), (3, .int b), (4, .int c), (5, .int k), (6, .ref x), (7, .int (nI N)), (8, .int 1), (9, .int (nI (j + 1)))] [.int (if po_isT σ (f (j + 1)) then 1 else 0), .int (nI N)] (rw_O A R h) 1 3
  refine ax_if_eq (tgt := 156) dX7_addConstructor_149 (by decide) (fun z => absurd z (by rw [hT]; decide)) (fun _ => ?_)
  refine ax_iconst (v := 1) dX7_addConstructor_152 (by decide) ?_
  refine ax_goto (tgt := 157) dX7_addConstructor_153 (by decide) ?_
  refine ax_iadd dX7_addConstructor_157 ?_
  refine ax_top (y := (nI (N + 1))) (nI_add _ 1) ?_
  refine ax_istore dX7_addConstructor_158 (by decide) ?_
  refine ax_sub (lv' := [(0, .ref (A.1 0)), (1, .int t), (2, .int a), (3, .int b), (4, .int c), (5, .int k), (6, .ref x), (7, .int (nI (N + 1))), (8, .int 1), (9, .int (nI (j + 1)))]) (fun _ z => z) ?_
  refine ax_iinc (v := (nI ((j + 1) + 1))) dX7_addConstructor_160 rfl (nI_1 _) (by decide) ?_
  refine ax_sub (lv' := [(0, .ref (A.1 0)), (1, .int t), (2, .int a), (3, .int b), (4, .int c), (5, .int k), (6, .ref x), (7, .int (nI (N + 1))), (8, .int 1), (9, .int (nI ((j + 1) + 1)))]) (fun _ z => z) ?_
  refine ax_goto (tgt := 52) dX7_addConstructor_163 (by decide) ?_
  exact kk
set_option maxRecDepth 100000 in
set_option maxHeartbeats 4000000 in
theorem ac_ob9 (hA : rw_nd A) (d : Nat) (R : rw_S) (h : ax_H) {σ : sp_St} (h3 : R.1 3 = nI σ.1.2.2.1) (h4 : σ.1.2.2.1 ≤ 4) {x : Nat} {f : Nat → Int32} (hx : rw_O A R h x = some (.inl (0, 3, .inl f))) {t a b c k : Int32} {N : Nat} {Q : ax_P} {j : Nat} (hi : j + 1 < 3) (h9 : f (j + 1) = 9) (hp : f j = -1) (hm : f (j + 1) = -1) (hT : po_isT σ (f (j + 1)) = false) (kk : AW G mX7_addConstructor (d + 48) 1 3 Q 52 [(0, .ref (A.1 0)), (1, .int t), (2, .int a), (3, .int b), (4, .int c), (5, .int k), (6, .ref x), (7, .int (nI (N + 0))), (8, .int 1), (9, .int (nI ((j + 1) + 1)))] [] (rw_O A R h) 1 3) : AW G mX7_addConstructor (d + 48) 1 3 Q 52 [(0, .ref (A.1 0)), (1, .int t), (2, .int a), (3, .int b), (4, .int c), (5, .int k), (6, .ref x), (7, .int (nI N)), (8, .int 1), (9, .int (nI (j + 1)))] [] (rw_O A R h) 1 3 := by
  refine ax_iload dX7_addConstructor_52 rfl ?_
  refine ax_iconst (v := 3) dX7_addConstructor_54 (by decide) ?_
  refine ax_icmp_ge (tgt := 166) dX7_addConstructor_55 (by decide) (fun z => absurd z (il_nle 3 (j + 1) (by omega))) (fun _ => ?_)
  refine ax_iload dX7_addConstructor_58 rfl ?_
  refine ax_if_eq (tgt := 98) dX7_addConstructor_60 (by decide) (fun z => absurd z (by decide)) (fun _ => ?_)
  refine ax_aload_n dX7_addConstructor_63 rfl ?_
  refine ax_aload dX7_addConstructor_64 rfl ?_
  refine ax_iload dX7_addConstructor_66 rfl ?_
  refine ax_ialdv (x := (f (j + 1))) dX7_addConstructor_68 hx (nI_in (by omega) (by decide)) (by rw [nI_clamp (by omega)]) ?_
  refine ax_callV (b := (A.1 0)) (av := [.int (f (j + 1))]) (rest := []) (mc' := 0) (ms' := 0) dX7_addConstructor_69 rfl lkX7_76 (rw_g0 hA) rfl (Nat.le_of_ble_eq_true rfl) (Nat.le_of_ble_eq_true rfl) (by omega) (by omega) (r_isType hA _ R h (f (j + 1)) (σ := σ) h3 h4) (fun E9 h9 q9 => by cases q9.1) (fun v9 h9 q9 => ?_)
  obtain ⟨e9, rfl⟩ := q9
  cases e9
  show AW G mX7_addConstructor (d + 48) 1 3 _ 72 [(0, .ref (A.1 0)), (1, .int t), (2, .int a), (3, .int b), (4, .int c), (5, .int k), (6, .ref x), (7, .int (nI N)), (8, .int 1), (9, .int (nI (j + 1)))] [.int (if po_isT σ (f (j + 1)) then 1 else 0)] (rw_O A R h) 1 3
  refine ax_if_ne (tgt := 94) dX7_addConstructor_72 (by decide) (fun z => absurd (by rw [hT]; rfl) z) (fun _ => ?_)
  refine ax_aload dX7_addConstructor_75 rfl ?_
  refine ax_iload dX7_addConstructor_77 rfl ?_
  refine ax_ialdv (x := (f (j + 1))) dX7_addConstructor_79 hx (nI_in (by omega) (by decide)) (by rw [nI_clamp (by omega)]) ?_
  refine ax_bipush (v := 9) dX7_addConstructor_80 (by decide) ?_
  refine ax_icmp_eq (tgt := 94) dX7_addConstructor_82 (by decide) (fun _ => ?_) (fun z => absurd h9 z)
  refine ax_iconst (v := 1) dX7_addConstructor_94 (by decide) ?_
  refine ax_goto (tgt := 99) dX7_addConstructor_95 (by decide) ?_
  refine ax_istore dX7_addConstructor_99 (by decide) ?_
  refine ax_sub (lv' := [(0, .ref (A.1 0)), (1, .int t), (2, .int a), (3, .int b), (4, .int c), (5, .int k), (6, .ref x), (7, .int (nI N)), (8, .int 1), (9, .int (nI (j + 1)))]) (fun _ z => z) ?_
  refine ax_iload dX7_addConstructor_101 rfl ?_
  refine ax_if_eq (tgt := 135) dX7_addConstructor_103 (by decide) (fun z => absurd z (by decide)) (fun _ => ?_)
  refine ax_iload dX7_addConstructor_106 rfl ?_
  refine ax_if_eq (tgt := 131) dX7_addConstructor_108 (by decide) (fun z => absurd z (il_ne (j + 1) 0 (by omega))) (fun _ => ?_)
  refine ax_aload dX7_addConstructor_111 rfl ?_
  refine ax_iload dX7_addConstructor_113 rfl ?_
  refine ax_iconst (v := 1) dX7_addConstructor_115 (by decide) ?_
  refine ax_isub dX7_addConstructor_116 ?_
  refine ax_top (y := (nI j)) ((nI_pred _)) ?_
  refine ax_ialdv (x := (f j)) dX7_addConstructor_117 hx (nI_in (by omega) (by decide)) (by rw [nI_clamp (by omega)]) ?_
  refine ax_iconst (v := (-1)) dX7_addConstructor_118 (by decide) ?_
  refine ax_icmp_ne (tgt := 131) dX7_addConstructor_119 (by decide) (fun z => absurd hp z) (fun _ => ?_)
  refine ax_aload dX7_addConstructor_122 rfl ?_
  refine ax_iload dX7_addConstructor_124 rfl ?_
  refine ax_ialdv (x := (f (j + 1))) dX7_addConstructor_126 hx (nI_in (by omega) (by decide)) (by rw [nI_clamp (by omega)]) ?_
  refine ax_iconst (v := (-1)) dX7_addConstructor_127 (by decide) ?_
  refine ax_icmp_ne (tgt := 135) dX7_addConstructor_128 (by decide) (fun z => absurd hm z) (fun _ => ?_)
  refine ax_iconst (v := 1) dX7_addConstructor_131 (by decide) ?_
  refine ax_goto (tgt := 136) dX7_addConstructor_132 (by decide) ?_
  refine ax_istore dX7_addConstructor_136 (by decide) ?_
  refine ax_sub (lv' := [(0, .ref (A.1 0)), (1, .int t), (2, .int a), (3, .int b), (4, .int c), (5, .int k), (6, .ref x), (7, .int (nI N)), (8, .int 1), (9, .int (nI (j + 1)))]) (fun _ z => z) ?_
  refine ax_iload dX7_addConstructor_138 rfl ?_
  refine ax_aload_n dX7_addConstructor_140 rfl ?_
  refine ax_aload dX7_addConstructor_141 rfl ?_
  refine ax_iload dX7_addConstructor_143 rfl ?_
  refine ax_ialdv (x := (f (j + 1))) dX7_addConstructor_145 hx (nI_in (by omega) (by decide)) (by rw [nI_clamp (by omega)]) ?_
  refine ax_callV (b := (A.1 0)) (av := [.int (f (j + 1))]) (rest := [.int (nI N)]) (mc' := 0) (ms' := 0) dX7_addConstructor_146 rfl lkX7_76 (rw_g0 hA) rfl (Nat.le_of_ble_eq_true rfl) (Nat.le_of_ble_eq_true rfl) (by omega) (by omega) (r_isType hA _ R h (f (j + 1)) (σ := σ) h3 h4) (fun E9 h9 q9 => by cases q9.1) (fun v9 h9 q9 => ?_)
  obtain ⟨e9, rfl⟩ := q9
  cases e9
  show AW G mX7_addConstructor (d + 48) 1 3 _ 149 [(0, .ref (A.1 0)), (1, .int t), (2, .int a), (3, .int b), (4, .int c), (5, .int k), (6, .ref x), (7, .int (nI N)), (8, .int 1), (9, .int (nI (j + 1)))] [.int (if po_isT σ (f (j + 1)) then 1 else 0), .int (nI N)] (rw_O A R h) 1 3
  refine ax_if_eq (tgt := 156) dX7_addConstructor_149 (by decide) (fun _ => ?_) (fun z => absurd (by rw [hT]; rfl) z)
  refine ax_iconst (v := 0) dX7_addConstructor_156 (by decide) ?_
  refine ax_iadd dX7_addConstructor_157 ?_
  refine ax_top (y := (nI (N + 0))) (nI_add _ 0) ?_
  refine ax_istore dX7_addConstructor_158 (by decide) ?_
  refine ax_sub (lv' := [(0, .ref (A.1 0)), (1, .int t), (2, .int a), (3, .int b), (4, .int c), (5, .int k), (6, .ref x), (7, .int (nI (N + 0))), (8, .int 1), (9, .int (nI (j + 1)))]) (fun _ z => z) ?_
  refine ax_iinc (v := (nI ((j + 1) + 1))) dX7_addConstructor_160 rfl (nI_1 _) (by decide) ?_
  refine ax_sub (lv' := [(0, .ref (A.1 0)), (1, .int t), (2, .int a), (3, .int b), (4, .int c), (5, .int k), (6, .ref x), (7, .int (nI (N + 0))), (8, .int 1), (9, .int (nI ((j + 1) + 1)))]) (fun _ z => z) ?_
  refine ax_goto (tgt := 52) dX7_addConstructor_163 (by decide) ?_
  exact kk
set_option maxRecDepth 100000 in
set_option maxHeartbeats 4000000 in
theorem ac_obm (hA : rw_nd A) (d : Nat) (R : rw_S) (h : ax_H) {σ : sp_St} (h3 : R.1 3 = nI σ.1.2.2.1) (h4 : σ.1.2.2.1 ≤ 4) {x : Nat} {f : Nat → Int32} (hx : rw_O A R h x = some (.inl (0, 3, .inl f))) {t a b c k : Int32} {N : Nat} {Q : ax_P} {j : Nat} (hi : j + 1 < 3) (h9 : ¬ f (j + 1) = 9) (hm : f (j + 1) = -1) (hp : f j = -1) (hT : po_isT σ (f (j + 1)) = false) (kk : AW G mX7_addConstructor (d + 48) 1 3 Q 52 [(0, .ref (A.1 0)), (1, .int t), (2, .int a), (3, .int b), (4, .int c), (5, .int k), (6, .ref x), (7, .int (nI (N + 0))), (8, .int 1), (9, .int (nI ((j + 1) + 1)))] [] (rw_O A R h) 1 3) : AW G mX7_addConstructor (d + 48) 1 3 Q 52 [(0, .ref (A.1 0)), (1, .int t), (2, .int a), (3, .int b), (4, .int c), (5, .int k), (6, .ref x), (7, .int (nI N)), (8, .int 1), (9, .int (nI (j + 1)))] [] (rw_O A R h) 1 3 := by
  refine ax_iload dX7_addConstructor_52 rfl ?_
  refine ax_iconst (v := 3) dX7_addConstructor_54 (by decide) ?_
  refine ax_icmp_ge (tgt := 166) dX7_addConstructor_55 (by decide) (fun z => absurd z (il_nle 3 (j + 1) (by omega))) (fun _ => ?_)
  refine ax_iload dX7_addConstructor_58 rfl ?_
  refine ax_if_eq (tgt := 98) dX7_addConstructor_60 (by decide) (fun z => absurd z (by decide)) (fun _ => ?_)
  refine ax_aload_n dX7_addConstructor_63 rfl ?_
  refine ax_aload dX7_addConstructor_64 rfl ?_
  refine ax_iload dX7_addConstructor_66 rfl ?_
  refine ax_ialdv (x := (f (j + 1))) dX7_addConstructor_68 hx (nI_in (by omega) (by decide)) (by rw [nI_clamp (by omega)]) ?_
  refine ax_callV (b := (A.1 0)) (av := [.int (f (j + 1))]) (rest := []) (mc' := 0) (ms' := 0) dX7_addConstructor_69 rfl lkX7_76 (rw_g0 hA) rfl (Nat.le_of_ble_eq_true rfl) (Nat.le_of_ble_eq_true rfl) (by omega) (by omega) (r_isType hA _ R h (f (j + 1)) (σ := σ) h3 h4) (fun E9 h9 q9 => by cases q9.1) (fun v9 h9 q9 => ?_)
  obtain ⟨e9, rfl⟩ := q9
  cases e9
  show AW G mX7_addConstructor (d + 48) 1 3 _ 72 [(0, .ref (A.1 0)), (1, .int t), (2, .int a), (3, .int b), (4, .int c), (5, .int k), (6, .ref x), (7, .int (nI N)), (8, .int 1), (9, .int (nI (j + 1)))] [.int (if po_isT σ (f (j + 1)) then 1 else 0)] (rw_O A R h) 1 3
  refine ax_if_ne (tgt := 94) dX7_addConstructor_72 (by decide) (fun z => absurd (by rw [hT]; rfl) z) (fun _ => ?_)
  refine ax_aload dX7_addConstructor_75 rfl ?_
  refine ax_iload dX7_addConstructor_77 rfl ?_
  refine ax_ialdv (x := (f (j + 1))) dX7_addConstructor_79 hx (nI_in (by omega) (by decide)) (by rw [nI_clamp (by omega)]) ?_
  refine ax_bipush (v := 9) dX7_addConstructor_80 (by decide) ?_
  refine ax_icmp_eq (tgt := 94) dX7_addConstructor_82 (by decide) (fun z => absurd z h9) (fun _ => ?_)
  refine ax_aload dX7_addConstructor_85 rfl ?_
  refine ax_iload dX7_addConstructor_87 rfl ?_
  refine ax_ialdv (x := (f (j + 1))) dX7_addConstructor_89 hx (nI_in (by omega) (by decide)) (by rw [nI_clamp (by omega)]) ?_
  refine ax_iconst (v := (-1)) dX7_addConstructor_90 (by decide) ?_
  refine ax_icmp_ne (tgt := 98) dX7_addConstructor_91 (by decide) (fun z => absurd hm z) (fun _ => ?_)
  refine ax_iconst (v := 1) dX7_addConstructor_94 (by decide) ?_
  refine ax_goto (tgt := 99) dX7_addConstructor_95 (by decide) ?_
  refine ax_istore dX7_addConstructor_99 (by decide) ?_
  refine ax_sub (lv' := [(0, .ref (A.1 0)), (1, .int t), (2, .int a), (3, .int b), (4, .int c), (5, .int k), (6, .ref x), (7, .int (nI N)), (8, .int 1), (9, .int (nI (j + 1)))]) (fun _ z => z) ?_
  refine ax_iload dX7_addConstructor_101 rfl ?_
  refine ax_if_eq (tgt := 135) dX7_addConstructor_103 (by decide) (fun z => absurd z (by decide)) (fun _ => ?_)
  refine ax_iload dX7_addConstructor_106 rfl ?_
  refine ax_if_eq (tgt := 131) dX7_addConstructor_108 (by decide) (fun z => absurd z (il_ne (j + 1) 0 (by omega))) (fun _ => ?_)
  refine ax_aload dX7_addConstructor_111 rfl ?_
  refine ax_iload dX7_addConstructor_113 rfl ?_
  refine ax_iconst (v := 1) dX7_addConstructor_115 (by decide) ?_
  refine ax_isub dX7_addConstructor_116 ?_
  refine ax_top (y := (nI j)) ((nI_pred _)) ?_
  refine ax_ialdv (x := (f j)) dX7_addConstructor_117 hx (nI_in (by omega) (by decide)) (by rw [nI_clamp (by omega)]) ?_
  refine ax_iconst (v := (-1)) dX7_addConstructor_118 (by decide) ?_
  refine ax_icmp_ne (tgt := 131) dX7_addConstructor_119 (by decide) (fun z => absurd hp z) (fun _ => ?_)
  refine ax_aload dX7_addConstructor_122 rfl ?_
  refine ax_iload dX7_addConstructor_124 rfl ?_
  refine ax_ialdv (x := (f (j + 1))) dX7_addConstructor_126 hx (nI_in (by omega) (by decide)) (by rw [nI_clamp (by omega)]) ?_
  refine ax_iconst (v := (-1)) dX7_addConstructor_127 (by decide) ?_
  refine ax_icmp_ne (tgt := 135) dX7_addConstructor_128 (by decide) (fun z => absurd hm z) (fun _ => ?_)
  refine ax_iconst (v := 1) dX7_addConstructor_131 (by decide) ?_
  refine ax_goto (tgt := 136) dX7_addConstructor_132 (by decide) ?_
  refine ax_istore dX7_addConstructor_136 (by decide) ?_
  refine ax_sub (lv' := [(0, .ref (A.1 0)), (1, .int t), (2, .int a), (3, .int b), (4, .int c), (5, .int k), (6, .ref x), (7, .int (nI N)), (8, .int 1), (9, .int (nI (j + 1)))]) (fun _ z => z) ?_
  refine ax_iload dX7_addConstructor_138 rfl ?_
  refine ax_aload_n dX7_addConstructor_140 rfl ?_
  refine ax_aload dX7_addConstructor_141 rfl ?_
  refine ax_iload dX7_addConstructor_143 rfl ?_
  refine ax_ialdv (x := (f (j + 1))) dX7_addConstructor_145 hx (nI_in (by omega) (by decide)) (by rw [nI_clamp (by omega)]) ?_
  refine ax_callV (b := (A.1 0)) (av := [.int (f (j + 1))]) (rest := [.int (nI N)]) (mc' := 0) (ms' := 0) dX7_addConstructor_146 rfl lkX7_76 (rw_g0 hA) rfl (Nat.le_of_ble_eq_true rfl) (Nat.le_of_ble_eq_true rfl) (by omega) (by omega) (r_isType hA _ R h (f (j + 1)) (σ := σ) h3 h4) (fun E9 h9 q9 => by cases q9.1) (fun v9 h9 q9 => ?_)
  obtain ⟨e9, rfl⟩ := q9
  cases e9
  show AW G mX7_addConstructor (d + 48) 1 3 _ 149 [(0, .ref (A.1 0)), (1, .int t), (2, .int a), (3, .int b), (4, .int c), (5, .int k), (6, .ref x), (7, .int (nI N)), (8, .int 1), (9, .int (nI (j + 1)))] [.int (if po_isT σ (f (j + 1)) then 1 else 0), .int (nI N)] (rw_O A R h) 1 3
  refine ax_if_eq (tgt := 156) dX7_addConstructor_149 (by decide) (fun _ => ?_) (fun z => absurd (by rw [hT]; rfl) z)
  refine ax_iconst (v := 0) dX7_addConstructor_156 (by decide) ?_
  refine ax_iadd dX7_addConstructor_157 ?_
  refine ax_top (y := (nI (N + 0))) (nI_add _ 0) ?_
  refine ax_istore dX7_addConstructor_158 (by decide) ?_
  refine ax_sub (lv' := [(0, .ref (A.1 0)), (1, .int t), (2, .int a), (3, .int b), (4, .int c), (5, .int k), (6, .ref x), (7, .int (nI (N + 0))), (8, .int 1), (9, .int (nI (j + 1)))]) (fun _ z => z) ?_
  refine ax_iinc (v := (nI ((j + 1) + 1))) dX7_addConstructor_160 rfl (nI_1 _) (by decide) ?_
  refine ax_sub (lv' := [(0, .ref (A.1 0)), (1, .int t), (2, .int a), (3, .int b), (4, .int c), (5, .int k), (6, .ref x), (7, .int (nI (N + 0))), (8, .int 1), (9, .int (nI ((j + 1) + 1)))]) (fun _ z => z) ?_
  refine ax_goto (tgt := 52) dX7_addConstructor_163 (by decide) ?_
  exact kk
set_option maxRecDepth 100000 in
set_option maxHeartbeats 4000000 in
theorem ac_oct (hA : rw_nd A) (d : Nat) (R : rw_S) (h : ax_H) {σ : sp_St} (h3 : R.1 3 = nI σ.1.2.2.1) (h4 : σ.1.2.2.1 ≤ 4) {x : Nat} {f : Nat → Int32} (hx : rw_O A R h x = some (.inl (0, 3, .inl f))) {t a b c k : Int32} {N : Nat} {Q : ax_P} {j : Nat} (hi : j + 1 < 3) (hp : f j = -1) (hm : ¬ f (j + 1) = -1) (hT : po_isT σ (f (j + 1)) = true) (kk : AW G mX7_addConstructor (d + 48) 1 3 Q 52 [(0, .ref (A.1 0)), (1, .int t), (2, .int a), (3, .int b), (4, .int c), (5, .int k), (6, .ref x), (7, .int (nI (N + 1))), (8, .int 0), (9, .int (nI ((j + 1) + 1)))] [] (rw_O A R h) 1 3) : AW G mX7_addConstructor (d + 48) 1 3 Q 52 [(0, .ref (A.1 0)), (1, .int t), (2, .int a), (3, .int b), (4, .int c), (5, .int k), (6, .ref x), (7, .int (nI N)), (8, .int 1), (9, .int (nI (j + 1)))] [] (rw_O A R h) 1 3 := by
  refine ax_iload dX7_addConstructor_52 rfl ?_
  refine ax_iconst (v := 3) dX7_addConstructor_54 (by decide) ?_
  refine ax_icmp_ge (tgt := 166) dX7_addConstructor_55 (by decide) (fun z => absurd z (il_nle 3 (j + 1) (by omega))) (fun _ => ?_)
  refine ax_iload dX7_addConstructor_58 rfl ?_
  refine ax_if_eq (tgt := 98) dX7_addConstructor_60 (by decide) (fun z => absurd z (by decide)) (fun _ => ?_)
  refine ax_aload_n dX7_addConstructor_63 rfl ?_
  refine ax_aload dX7_addConstructor_64 rfl ?_
  refine ax_iload dX7_addConstructor_66 rfl ?_
  refine ax_ialdv (x := (f (j + 1))) dX7_addConstructor_68 hx (nI_in (by omega) (by decide)) (by rw [nI_clamp (by omega)]) ?_
  refine ax_callV (b := (A.1 0)) (av := [.int (f (j + 1))]) (rest := []) (mc' := 0) (ms' := 0) dX7_addConstructor_69 rfl lkX7_76 (rw_g0 hA) rfl (Nat.le_of_ble_eq_true rfl) (Nat.le_of_ble_eq_true rfl) (by omega) (by omega) (r_isType hA _ R h (f (j + 1)) (σ := σ) h3 h4) (fun E9 h9 q9 => by cases q9.1) (fun v9 h9 q9 => ?_)
  obtain ⟨e9, rfl⟩ := q9
  cases e9
  show AW G mX7_addConstructor (d + 48) 1 3 _ 72 [(0, .ref (A.1 0)), (1, .int t), (2, .int a), (3, .int b), (4, .int c), (5, .int k), (6, .ref x), (7, .int (nI N)), (8, .int 1), (9, .int (nI (j + 1)))] [.int (if po_isT σ (f (j + 1)) then 1 else 0)] (rw_O A R h) 1 3
  refine ax_if_ne (tgt := 94) dX7_addConstructor_72 (by decide) (fun _ => ?_) (fun z => absurd z (by rw [hT]; decide))
  refine ax_iconst (v := 1) dX7_addConstructor_94 (by decide) ?_
  refine ax_goto (tgt := 99) dX7_addConstructor_95 (by decide) ?_
  refine ax_istore dX7_addConstructor_99 (by decide) ?_
  refine ax_sub (lv' := [(0, .ref (A.1 0)), (1, .int t), (2, .int a), (3, .int b), (4, .int c), (5, .int k), (6, .ref x), (7, .int (nI N)), (8, .int 1), (9, .int (nI (j + 1)))]) (fun _ z => z) ?_
  refine ax_iload dX7_addConstructor_101 rfl ?_
  refine ax_if_eq (tgt := 135) dX7_addConstructor_103 (by decide) (fun z => absurd z (by decide)) (fun _ => ?_)
  refine ax_iload dX7_addConstructor_106 rfl ?_
  refine ax_if_eq (tgt := 131) dX7_addConstructor_108 (by decide) (fun z => absurd z (il_ne (j + 1) 0 (by omega))) (fun _ => ?_)
  refine ax_aload dX7_addConstructor_111 rfl ?_
  refine ax_iload dX7_addConstructor_113 rfl ?_
  refine ax_iconst (v := 1) dX7_addConstructor_115 (by decide) ?_
  refine ax_isub dX7_addConstructor_116 ?_
  refine ax_top (y := (nI j)) ((nI_pred _)) ?_
  refine ax_ialdv (x := (f j)) dX7_addConstructor_117 hx (nI_in (by omega) (by decide)) (by rw [nI_clamp (by omega)]) ?_
  refine ax_iconst (v := (-1)) dX7_addConstructor_118 (by decide) ?_
  refine ax_icmp_ne (tgt := 131) dX7_addConstructor_119 (by decide) (fun z => absurd hp z) (fun _ => ?_)
  refine ax_aload dX7_addConstructor_122 rfl ?_
  refine ax_iload dX7_addConstructor_124 rfl ?_
  refine ax_ialdv (x := (f (j + 1))) dX7_addConstructor_126 hx (nI_in (by omega) (by decide)) (by rw [nI_clamp (by omega)]) ?_
  refine ax_iconst (v := (-1)) dX7_addConstructor_127 (by decide) ?_
  refine ax_icmp_ne (tgt := 135) dX7_addConstructor_128 (by decide) (fun _ => ?_) (fun z => absurd z hm)
  refine ax_iconst (v := 0) dX7_addConstructor_135 (by decide) ?_
  refine ax_istore dX7_addConstructor_136 (by decide) ?_
  refine ax_sub (lv' := [(0, .ref (A.1 0)), (1, .int t), (2, .int a), (3, .int b), (4, .int c), (5, .int k), (6, .ref x), (7, .int (nI N)), (8, .int 0), (9, .int (nI (j + 1)))]) (fun _ z => z) ?_
  refine ax_iload dX7_addConstructor_138 rfl ?_
  refine ax_aload_n dX7_addConstructor_140 rfl ?_
  refine ax_aload dX7_addConstructor_141 rfl ?_
  refine ax_iload dX7_addConstructor_143 rfl ?_
  refine ax_ialdv (x := (f (j + 1))) dX7_addConstructor_145 hx (nI_in (by omega) (by decide)) (by rw [nI_clamp (by omega)]) ?_
  refine ax_callV (b := (A.1 0)) (av := [.int (f (j + 1))]) (rest := [.int (nI N)]) (mc' := 0) (ms' := 0) dX7_addConstructor_146 rfl lkX7_76 (rw_g0 hA) rfl (Nat.le_of_ble_eq_true rfl) (Nat.le_of_ble_eq_true rfl) (by omega) (by omega) (r_isType hA _ R h (f (j + 1)) (σ := σ) h3 h4) (fun E9 h9 q9 => by cases q9.1) (fun v9 h9 q9 => ?_)
  obtain ⟨e9, rfl⟩ := q9
  cases e9
  show AW G mX7_addConstructor (d + 48) 1 3 _ 149 [(0, .ref (A.1 0)), (1, .int t), (2, .int a), (3, .int b), (4, .int c), (5, .int k), (6, .ref x), (7, .int (nI N)), (8, .int 0), (9, .int (nI (j + 1)))] [.int (if po_isT σ (f (j + 1)) then 1 else 0), .int (nI N)] (rw_O A R h) 1 3
  refine ax_if_eq (tgt := 156) dX7_addConstructor_149 (by decide) (fun z => absurd z (by rw [hT]; decide)) (fun _ => ?_)
  refine ax_iconst (v := 1) dX7_addConstructor_152 (by decide) ?_
  refine ax_goto (tgt := 157) dX7_addConstructor_153 (by decide) ?_
  refine ax_iadd dX7_addConstructor_157 ?_
  refine ax_top (y := (nI (N + 1))) (nI_add _ 1) ?_
  refine ax_istore dX7_addConstructor_158 (by decide) ?_
  refine ax_sub (lv' := [(0, .ref (A.1 0)), (1, .int t), (2, .int a), (3, .int b), (4, .int c), (5, .int k), (6, .ref x), (7, .int (nI (N + 1))), (8, .int 0), (9, .int (nI (j + 1)))]) (fun _ z => z) ?_
  refine ax_iinc (v := (nI ((j + 1) + 1))) dX7_addConstructor_160 rfl (nI_1 _) (by decide) ?_
  refine ax_sub (lv' := [(0, .ref (A.1 0)), (1, .int t), (2, .int a), (3, .int b), (4, .int c), (5, .int k), (6, .ref x), (7, .int (nI (N + 1))), (8, .int 0), (9, .int (nI ((j + 1) + 1)))]) (fun _ z => z) ?_
  refine ax_goto (tgt := 52) dX7_addConstructor_163 (by decide) ?_
  exact kk
set_option maxRecDepth 100000 in
set_option maxHeartbeats 4000000 in
theorem ac_oc9 (hA : rw_nd A) (d : Nat) (R : rw_S) (h : ax_H) {σ : sp_St} (h3 : R.1 3 = nI σ.1.2.2.1) (h4 : σ.1.2.2.1 ≤ 4) {x : Nat} {f : Nat → Int32} (hx : rw_O A R h x = some (.inl (0, 3, .inl f))) {t a b c k : Int32} {N : Nat} {Q : ax_P} {j : Nat} (hi : j + 1 < 3) (h9 : f (j + 1) = 9) (hp : f j = -1) (hm : ¬ f (j + 1) = -1) (hT : po_isT σ (f (j + 1)) = false) (kk : AW G mX7_addConstructor (d + 48) 1 3 Q 52 [(0, .ref (A.1 0)), (1, .int t), (2, .int a), (3, .int b), (4, .int c), (5, .int k), (6, .ref x), (7, .int (nI (N + 0))), (8, .int 0), (9, .int (nI ((j + 1) + 1)))] [] (rw_O A R h) 1 3) : AW G mX7_addConstructor (d + 48) 1 3 Q 52 [(0, .ref (A.1 0)), (1, .int t), (2, .int a), (3, .int b), (4, .int c), (5, .int k), (6, .ref x), (7, .int (nI N)), (8, .int 1), (9, .int (nI (j + 1)))] [] (rw_O A R h) 1 3 := by
  refine ax_iload dX7_addConstructor_52 rfl ?_
  refine ax_iconst (v := 3) dX7_addConstructor_54 (by decide) ?_
  refine ax_icmp_ge (tgt := 166) dX7_addConstructor_55 (by decide) (fun z => absurd z (il_nle 3 (j + 1) (by omega))) (fun _ => ?_)
  refine ax_iload dX7_addConstructor_58 rfl ?_
  refine ax_if_eq (tgt := 98) dX7_addConstructor_60 (by decide) (fun z => absurd z (by decide)) (fun _ => ?_)
  refine ax_aload_n dX7_addConstructor_63 rfl ?_
  refine ax_aload dX7_addConstructor_64 rfl ?_
  refine ax_iload dX7_addConstructor_66 rfl ?_
  refine ax_ialdv (x := (f (j + 1))) dX7_addConstructor_68 hx (nI_in (by omega) (by decide)) (by rw [nI_clamp (by omega)]) ?_
  refine ax_callV (b := (A.1 0)) (av := [.int (f (j + 1))]) (rest := []) (mc' := 0) (ms' := 0) dX7_addConstructor_69 rfl lkX7_76 (rw_g0 hA) rfl (Nat.le_of_ble_eq_true rfl) (Nat.le_of_ble_eq_true rfl) (by omega) (by omega) (r_isType hA _ R h (f (j + 1)) (σ := σ) h3 h4) (fun E9 h9 q9 => by cases q9.1) (fun v9 h9 q9 => ?_)
  obtain ⟨e9, rfl⟩ := q9
  cases e9
  show AW G mX7_addConstructor (d + 48) 1 3 _ 72 [(0, .ref (A.1 0)), (1, .int t), (2, .int a), (3, .int b), (4, .int c), (5, .int k), (6, .ref x), (7, .int (nI N)), (8, .int 1), (9, .int (nI (j + 1)))] [.int (if po_isT σ (f (j + 1)) then 1 else 0)] (rw_O A R h) 1 3
  refine ax_if_ne (tgt := 94) dX7_addConstructor_72 (by decide) (fun z => absurd (by rw [hT]; rfl) z) (fun _ => ?_)
  refine ax_aload dX7_addConstructor_75 rfl ?_
  refine ax_iload dX7_addConstructor_77 rfl ?_
  refine ax_ialdv (x := (f (j + 1))) dX7_addConstructor_79 hx (nI_in (by omega) (by decide)) (by rw [nI_clamp (by omega)]) ?_
  refine ax_bipush (v := 9) dX7_addConstructor_80 (by decide) ?_
  refine ax_icmp_eq (tgt := 94) dX7_addConstructor_82 (by decide) (fun _ => ?_) (fun z => absurd h9 z)
  refine ax_iconst (v := 1) dX7_addConstructor_94 (by decide) ?_
  refine ax_goto (tgt := 99) dX7_addConstructor_95 (by decide) ?_
  refine ax_istore dX7_addConstructor_99 (by decide) ?_
  refine ax_sub (lv' := [(0, .ref (A.1 0)), (1, .int t), (2, .int a), (3, .int b), (4, .int c), (5, .int k), (6, .ref x), (7, .int (nI N)), (8, .int 1), (9, .int (nI (j + 1)))]) (fun _ z => z) ?_
  refine ax_iload dX7_addConstructor_101 rfl ?_
  refine ax_if_eq (tgt := 135) dX7_addConstructor_103 (by decide) (fun z => absurd z (by decide)) (fun _ => ?_)
  refine ax_iload dX7_addConstructor_106 rfl ?_
  refine ax_if_eq (tgt := 131) dX7_addConstructor_108 (by decide) (fun z => absurd z (il_ne (j + 1) 0 (by omega))) (fun _ => ?_)
  refine ax_aload dX7_addConstructor_111 rfl ?_
  refine ax_iload dX7_addConstructor_113 rfl ?_
  refine ax_iconst (v := 1) dX7_addConstructor_115 (by decide) ?_
  refine ax_isub dX7_addConstructor_116 ?_
  refine ax_top (y := (nI j)) ((nI_pred _)) ?_
  refine ax_ialdv (x := (f j)) dX7_addConstructor_117 hx (nI_in (by omega) (by decide)) (by rw [nI_clamp (by omega)]) ?_
  refine ax_iconst (v := (-1)) dX7_addConstructor_118 (by decide) ?_
  refine ax_icmp_ne (tgt := 131) dX7_addConstructor_119 (by decide) (fun z => absurd hp z) (fun _ => ?_)
  refine ax_aload dX7_addConstructor_122 rfl ?_
  refine ax_iload dX7_addConstructor_124 rfl ?_
  refine ax_ialdv (x := (f (j + 1))) dX7_addConstructor_126 hx (nI_in (by omega) (by decide)) (by rw [nI_clamp (by omega)]) ?_
  refine ax_iconst (v := (-1)) dX7_addConstructor_127 (by decide) ?_
  refine ax_icmp_ne (tgt := 135) dX7_addConstructor_128 (by decide) (fun _ => ?_) (fun z => absurd z hm)
  refine ax_iconst (v := 0) dX7_addConstructor_135 (by decide) ?_
  refine ax_istore dX7_addConstructor_136 (by decide) ?_
  refine ax_sub (lv' := [(0, .ref (A.1 0)), (1, .int t), (2, .int a), (3, .int b), (4, .int c), (5, .int k), (6, .ref x), (7, .int (nI N)), (8, .int 0), (9, .int (nI (j + 1)))]) (fun _ z => z) ?_
  refine ax_iload dX7_addConstructor_138 rfl ?_
  refine ax_aload_n dX7_addConstructor_140 rfl ?_
  refine ax_aload dX7_addConstructor_141 rfl ?_
  refine ax_iload dX7_addConstructor_143 rfl ?_
  refine ax_ialdv (x := (f (j + 1))) dX7_addConstructor_145 hx (nI_in (by omega) (by decide)) (by rw [nI_clamp (by omega)]) ?_
  refine ax_callV (b := (A.1 0)) (av := [.int (f (j + 1))]) (rest := [.int (nI N)]) (mc' := 0) (ms' := 0) dX7_addConstructor_146 rfl lkX7_76 (rw_g0 hA) rfl (Nat.le_of_ble_eq_true rfl) (Nat.le_of_ble_eq_true rfl) (by omega) (by omega) (r_isType hA _ R h (f (j + 1)) (σ := σ) h3 h4) (fun E9 h9 q9 => by cases q9.1) (fun v9 h9 q9 => ?_)
  obtain ⟨e9, rfl⟩ := q9
  cases e9
  show AW G mX7_addConstructor (d + 48) 1 3 _ 149 [(0, .ref (A.1 0)), (1, .int t), (2, .int a), (3, .int b), (4, .int c), (5, .int k), (6, .ref x), (7, .int (nI N)), (8, .int 0), (9, .int (nI (j + 1)))] [.int (if po_isT σ (f (j + 1)) then 1 else 0), .int (nI N)] (rw_O A R h) 1 3
  refine ax_if_eq (tgt := 156) dX7_addConstructor_149 (by decide) (fun _ => ?_) (fun z => absurd (by rw [hT]; rfl) z)
  refine ax_iconst (v := 0) dX7_addConstructor_156 (by decide) ?_
  refine ax_iadd dX7_addConstructor_157 ?_
  refine ax_top (y := (nI (N + 0))) (nI_add _ 0) ?_
  refine ax_istore dX7_addConstructor_158 (by decide) ?_
  refine ax_sub (lv' := [(0, .ref (A.1 0)), (1, .int t), (2, .int a), (3, .int b), (4, .int c), (5, .int k), (6, .ref x), (7, .int (nI (N + 0))), (8, .int 0), (9, .int (nI (j + 1)))]) (fun _ z => z) ?_
  refine ax_iinc (v := (nI ((j + 1) + 1))) dX7_addConstructor_160 rfl (nI_1 _) (by decide) ?_
  refine ax_sub (lv' := [(0, .ref (A.1 0)), (1, .int t), (2, .int a), (3, .int b), (4, .int c), (5, .int k), (6, .ref x), (7, .int (nI (N + 0))), (8, .int 0), (9, .int (nI ((j + 1) + 1)))]) (fun _ z => z) ?_
  refine ax_goto (tgt := 52) dX7_addConstructor_163 (by decide) ?_
  exact kk
set_option maxRecDepth 100000 in
set_option maxHeartbeats 4000000 in
theorem ac_ns (hA : rw_nd A) (d : Nat) (R : rw_S) (h : ax_H) {σ : sp_St} (h3 : R.1 3 = nI σ.1.2.2.1) (h4 : σ.1.2.2.1 ≤ 4) {x : Nat} {f : Nat → Int32} (hx : rw_O A R h x = some (.inl (0, 3, .inl f))) {t a b c k : Int32} {N : Nat} {Q : ax_P} {j : Nat} (hi : j + 1 < 3) (h9 : ¬ f (j + 1) = 9) (hm : ¬ f (j + 1) = -1) (hT : po_isT σ (f (j + 1)) = false) (kk : AW G mX7_addConstructor (d + 48) 1 3 Q 52 [(0, .ref (A.1 0)), (1, .int t), (2, .int a), (3, .int b), (4, .int c), (5, .int k), (6, .ref x), (7, .int (nI (N + 0))), (8, .int 0), (9, .int (nI ((j + 1) + 1)))] [] (rw_O A R h) 1 3) : AW G mX7_addConstructor (d + 48) 1 3 Q 52 [(0, .ref (A.1 0)), (1, .int t), (2, .int a), (3, .int b), (4, .int c), (5, .int k), (6, .ref x), (7, .int (nI N)), (8, .int 1), (9, .int (nI (j + 1)))] [] (rw_O A R h) 1 3 := by
  refine ax_iload dX7_addConstructor_52 rfl ?_
  refine ax_iconst (v := 3) dX7_addConstructor_54 (by decide) ?_
  refine ax_icmp_ge (tgt := 166) dX7_addConstructor_55 (by decide) (fun z => absurd z (il_nle 3 (j + 1) (by omega))) (fun _ => ?_)
  refine ax_iload dX7_addConstructor_58 rfl ?_
  refine ax_if_eq (tgt := 98) dX7_addConstructor_60 (by decide) (fun z => absurd z (by decide)) (fun _ => ?_)
  refine ax_aload_n dX7_addConstructor_63 rfl ?_
  refine ax_aload dX7_addConstructor_64 rfl ?_
  refine ax_iload dX7_addConstructor_66 rfl ?_
  refine ax_ialdv (x := (f (j + 1))) dX7_addConstructor_68 hx (nI_in (by omega) (by decide)) (by rw [nI_clamp (by omega)]) ?_
  refine ax_callV (b := (A.1 0)) (av := [.int (f (j + 1))]) (rest := []) (mc' := 0) (ms' := 0) dX7_addConstructor_69 rfl lkX7_76 (rw_g0 hA) rfl (Nat.le_of_ble_eq_true rfl) (Nat.le_of_ble_eq_true rfl) (by omega) (by omega) (r_isType hA _ R h (f (j + 1)) (σ := σ) h3 h4) (fun E9 h9 q9 => by cases q9.1) (fun v9 h9 q9 => ?_)
  obtain ⟨e9, rfl⟩ := q9
  cases e9
  show AW G mX7_addConstructor (d + 48) 1 3 _ 72 [(0, .ref (A.1 0)), (1, .int t), (2, .int a), (3, .int b), (4, .int c), (5, .int k), (6, .ref x), (7, .int (nI N)), (8, .int 1), (9, .int (nI (j + 1)))] [.int (if po_isT σ (f (j + 1)) then 1 else 0)] (rw_O A R h) 1 3
  refine ax_if_ne (tgt := 94) dX7_addConstructor_72 (by decide) (fun z => absurd (by rw [hT]; rfl) z) (fun _ => ?_)
  refine ax_aload dX7_addConstructor_75 rfl ?_
  refine ax_iload dX7_addConstructor_77 rfl ?_
  refine ax_ialdv (x := (f (j + 1))) dX7_addConstructor_79 hx (nI_in (by omega) (by decide)) (by rw [nI_clamp (by omega)]) ?_
  refine ax_bipush (v := 9) dX7_addConstructor_80 (by decide) ?_
  refine ax_icmp_eq (tgt := 94) dX7_addConstructor_82 (by decide) (fun z => absurd z h9) (fun _ => ?_)
  refine ax_aload dX7_addConstructor_85 rfl ?_
  refine ax_iload dX7_addConstructor_87 rfl ?_
  refine ax_ialdv (x := (f (j + 1))) dX7_addConstructor_89 hx (nI_in (by omega) (by decide)) (by rw [nI_clamp (by omega)]) ?_
  refine ax_iconst (v := (-1)) dX7_addConstructor_90 (by decide) ?_
  refine ax_icmp_ne (tgt := 98) dX7_addConstructor_91 (by decide) (fun _ => ?_) (fun z => absurd z hm)
  refine ax_iconst (v := 0) dX7_addConstructor_98 (by decide) ?_
  refine ax_istore dX7_addConstructor_99 (by decide) ?_
  refine ax_sub (lv' := [(0, .ref (A.1 0)), (1, .int t), (2, .int a), (3, .int b), (4, .int c), (5, .int k), (6, .ref x), (7, .int (nI N)), (8, .int 0), (9, .int (nI (j + 1)))]) (fun _ z => z) ?_
  refine ax_iload dX7_addConstructor_101 rfl ?_
  refine ax_if_eq (tgt := 135) dX7_addConstructor_103 (by decide) (fun _ => ?_) (fun z => absurd rfl z)
  refine ax_iconst (v := 0) dX7_addConstructor_135 (by decide) ?_
  refine ax_istore dX7_addConstructor_136 (by decide) ?_
  refine ax_sub (lv' := [(0, .ref (A.1 0)), (1, .int t), (2, .int a), (3, .int b), (4, .int c), (5, .int k), (6, .ref x), (7, .int (nI N)), (8, .int 0), (9, .int (nI (j + 1)))]) (fun _ z => z) ?_
  refine ax_iload dX7_addConstructor_138 rfl ?_
  refine ax_aload_n dX7_addConstructor_140 rfl ?_
  refine ax_aload dX7_addConstructor_141 rfl ?_
  refine ax_iload dX7_addConstructor_143 rfl ?_
  refine ax_ialdv (x := (f (j + 1))) dX7_addConstructor_145 hx (nI_in (by omega) (by decide)) (by rw [nI_clamp (by omega)]) ?_
  refine ax_callV (b := (A.1 0)) (av := [.int (f (j + 1))]) (rest := [.int (nI N)]) (mc' := 0) (ms' := 0) dX7_addConstructor_146 rfl lkX7_76 (rw_g0 hA) rfl (Nat.le_of_ble_eq_true rfl) (Nat.le_of_ble_eq_true rfl) (by omega) (by omega) (r_isType hA _ R h (f (j + 1)) (σ := σ) h3 h4) (fun E9 h9 q9 => by cases q9.1) (fun v9 h9 q9 => ?_)
  obtain ⟨e9, rfl⟩ := q9
  cases e9
  show AW G mX7_addConstructor (d + 48) 1 3 _ 149 [(0, .ref (A.1 0)), (1, .int t), (2, .int a), (3, .int b), (4, .int c), (5, .int k), (6, .ref x), (7, .int (nI N)), (8, .int 0), (9, .int (nI (j + 1)))] [.int (if po_isT σ (f (j + 1)) then 1 else 0), .int (nI N)] (rw_O A R h) 1 3
  refine ax_if_eq (tgt := 156) dX7_addConstructor_149 (by decide) (fun _ => ?_) (fun z => absurd (by rw [hT]; rfl) z)
  refine ax_iconst (v := 0) dX7_addConstructor_156 (by decide) ?_
  refine ax_iadd dX7_addConstructor_157 ?_
  refine ax_top (y := (nI (N + 0))) (nI_add _ 0) ?_
  refine ax_istore dX7_addConstructor_158 (by decide) ?_
  refine ax_sub (lv' := [(0, .ref (A.1 0)), (1, .int t), (2, .int a), (3, .int b), (4, .int c), (5, .int k), (6, .ref x), (7, .int (nI (N + 0))), (8, .int 0), (9, .int (nI (j + 1)))]) (fun _ z => z) ?_
  refine ax_iinc (v := (nI ((j + 1) + 1))) dX7_addConstructor_160 rfl (nI_1 _) (by decide) ?_
  refine ax_sub (lv' := [(0, .ref (A.1 0)), (1, .int t), (2, .int a), (3, .int b), (4, .int c), (5, .int k), (6, .ref x), (7, .int (nI (N + 0))), (8, .int 0), (9, .int (nI ((j + 1) + 1)))]) (fun _ z => z) ?_
  refine ax_goto (tgt := 52) dX7_addConstructor_163 (by decide) ?_
  exact kk
end RP11
