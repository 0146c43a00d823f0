/-! ===== the reference: find, add ===== -/
section RP6
variable {G : ax_G} {A : rw_Ad}

set_option maxRecDepth 100000 in
set_option maxHeartbeats 4000000 in
theorem fi_no (hA : rw_nd A) (d : Nat) (R : rw_S) (h : ax_H) {ca N : Nat} {f : Nat → Int32} (hca : rw_O A R h ca = some (.inl (0, N, .inl f))) {t n r : Nat} (ht : t < 4) (hn : n ≤ 100) {b lw : Nat} {fb : Nat → Int32} (hcb : rw_O A R h b = some (.inl (0, lw, .inl fb))) {k : Nat} (hk : k ≤ n) {Q : ax_P} (kk : AW G mX7_find (d + 1) 0 0 Q 7 [(0, .ref (A.1 0)), (1, .int (nI t)), (2, .ref ca), (3, .int (nI n)), (4, .int (nI (r + 1)))] [] (rw_O A R h) 0 0) : AW G mX7_find (d + 1) 0 0 Q 49 [(0, .ref (A.1 0)), (1, .int (nI t)), (2, .ref ca), (3, .int (nI n)), (4, .int (nI r)), (5, .ref b), (6, .int 0), (7, .int (nI k))] [] (rw_O A R h) 0 0 := by
  by_cases hkn : n ≤ k
  · refine ax_iload dX7_find_49 rfl ?_
    refine ax_iload_n dX7_find_51 rfl ?_
    refine ax_icmp_ge (tgt := 85) dX7_find_52 (by decide) (fun _ => ?_) (fun z => absurd (il_le n k hkn) z)
    refine ax_iload dX7_find_85 rfl ?_
    refine ax_if_eq (tgt := 93) dX7_find_87 (by decide) (fun _ => ?_) (fun z => absurd rfl z)
    refine ax_iinc (v := (nI (r + 1))) dX7_find_93 rfl (nI_1 r) (by decide) ?_
    refine ax_sub (lv' := [(0, .ref (A.1 0)), (1, .int (nI t)), (2, .ref ca), (3, .int (nI n)), (4, .int (nI (r + 1))), (5, .ref b), (6, .int 0), (7, .int (nI k))]) (fun _ z => z) ?_
    refine ax_goto (tgt := 7) dX7_find_96 (by decide) ?_
    exact ax_sub (fun q hq => List.mem_append_left [(5, Value.ref b), (6, Value.int 0), (7, Value.int (nI k))] hq) kk
  · refine ax_iload dX7_find_49 rfl ?_
    refine ax_iload_n dX7_find_51 rfl ?_
    refine ax_icmp_ge (tgt := 85) dX7_find_52 (by decide) (fun z => absurd z (il_nle n k (by omega))) (fun _ => ?_)
    refine ax_iload dX7_find_55 rfl ?_
    refine ax_if_eq (tgt := 85) dX7_find_57 (by decide) (fun _ => ?_) (fun z => absurd rfl z)
    refine ax_iload dX7_find_85 rfl ?_
    refine ax_if_eq (tgt := 93) dX7_find_87 (by decide) (fun _ => ?_) (fun z => absurd rfl z)
    refine ax_iinc (v := (nI (r + 1))) dX7_find_93 rfl (nI_1 r) (by decide) ?_
    refine ax_sub (lv' := [(0, .ref (A.1 0)), (1, .int (nI t)), (2, .ref ca), (3, .int (nI n)), (4, .int (nI (r + 1))), (5, .ref b), (6, .int 0), (7, .int (nI k))]) (fun _ z => z) ?_
    refine ax_goto (tgt := 7) dX7_find_96 (by decide) ?_
    exact ax_sub (fun q hq => List.mem_append_left [(5, Value.ref b), (6, Value.int 0), (7, Value.int (nI k))] hq) kk
theorem fi_eq (hA : rw_nd A) (d : Nat) (R : rw_S) (h : ax_H) {ca N : Nat} {f : Nat → Int32} (hca : rw_O A R h ca = some (.inl (0, N, .inl f))) {t n r : Nat} (ht : t < 4) (hn : n ≤ 100) {b lw : Nat} {fb : Nat → Int32} (hcb : rw_O A R h b = some (.inl (0, lw, .inl fb))) {k x : Nat} (hk : k < n) (hkN : k < N) (hkl : k < lw) (hl : lw ≤ 100) (hN : N ≤ 100) (h1 : f k = nI x) (h2 : fb k = nI x) {Q : ax_P} (kk : AW G mX7_find (d + 1) 0 0 Q 49 [(0, .ref (A.1 0)), (1, .int (nI t)), (2, .ref ca), (3, .int (nI n)), (4, .int (nI r)), (5, .ref b), (6, .int 1), (7, .int (nI (k + 1)))] [] (rw_O A R h) 0 0) : AW G mX7_find (d + 1) 0 0 Q 49 [(0, .ref (A.1 0)), (1, .int (nI t)), (2, .ref ca), (3, .int (nI n)), (4, .int (nI r)), (5, .ref b), (6, .int 1), (7, .int (nI k))] [] (rw_O A R h) 0 0 := by
  refine ax_iload dX7_find_49 rfl ?_
  refine ax_iload_n dX7_find_51 rfl ?_
  refine ax_icmp_ge (tgt := 85) dX7_find_52 (by decide) (fun z => absurd z (il_nle n k hk)) (fun _ => ?_)
  refine ax_iload dX7_find_55 rfl ?_
  refine ax_if_eq (tgt := 85) dX7_find_57 (by decide) (fun z => absurd z (by decide)) (fun _ => ?_)
  refine ax_aload dX7_find_60 rfl ?_
  refine ax_iload dX7_find_62 rfl ?_
  refine ax_ialdv (x := (nI x)) dX7_find_64 hcb (nI_in hkl (by omega)) (by rw [nI_clamp (by omega)]; exact h2) ?_
  refine ax_aload_n dX7_find_65 rfl ?_
  refine ax_iload dX7_find_66 rfl ?_
  refine ax_ialdv (x := (nI x)) dX7_find_68 hca (nI_in hkN (by omega)) (by rw [nI_clamp (by omega)]; exact h1) ?_
  refine ax_icmp_ne (tgt := 76) dX7_find_69 (by decide) (fun z => absurd rfl z) (fun _ => ?_)
  refine ax_iconst (v := 1) dX7_find_72 (by decide) ?_
  refine ax_goto (tgt := 77) dX7_find_73 (by decide) ?_
  refine ax_istore dX7_find_77 (by decide) ?_
  refine ax_sub (lv' := [(0, .ref (A.1 0)), (1, .int (nI t)), (2, .ref ca), (3, .int (nI n)), (4, .int (nI r)), (5, .ref b), (6, .int 1), (7, .int (nI k))]) (fun _ z => z) ?_
  refine ax_iinc (v := (nI (k + 1))) dX7_find_79 rfl (nI_1 k) (by decide) ?_
  refine ax_sub (lv' := [(0, .ref (A.1 0)), (1, .int (nI t)), (2, .ref ca), (3, .int (nI n)), (4, .int (nI r)), (5, .ref b), (6, .int 1), (7, .int (nI (k + 1)))]) (fun _ z => z) ?_
  refine ax_goto (tgt := 49) dX7_find_82 (by decide) ?_
  exact kk
theorem fi_ne (hA : rw_nd A) (d : Nat) (R : rw_S) (h : ax_H) {ca N : Nat} {f : Nat → Int32} (hca : rw_O A R h ca = some (.inl (0, N, .inl f))) {t n r : Nat} (ht : t < 4) (hn : n ≤ 100) {b lw : Nat} {fb : Nat → Int32} (hcb : rw_O A R h b = some (.inl (0, lw, .inl fb))) {k x z : Nat} (hk : k < n) (hkN : k < N) (hkl : k < lw) (hl : lw ≤ 100) (hN : N ≤ 100) (h1 : f k = nI x) (h2 : fb k = nI z) (hxz : ¬ nI z = nI x) {Q : ax_P} (kk : AW G mX7_find (d + 1) 0 0 Q 49 [(0, .ref (A.1 0)), (1, .int (nI t)), (2, .ref ca), (3, .int (nI n)), (4, .int (nI r)), (5, .ref b), (6, .int 0), (7, .int (nI (k + 1)))] [] (rw_O A R h) 0 0) : AW G mX7_find (d + 1) 0 0 Q 49 [(0, .ref (A.1 0)), (1, .int (nI t)), (2, .ref ca), (3, .int (nI n)), (4, .int (nI r)), (5, .ref b), (6, .int 1), (7, .int (nI k))] [] (rw_O A R h) 0 0 := by
  refine ax_iload dX7_find_49 rfl ?_
  refine ax_iload_n dX7_find_51 rfl ?_
  refine ax_icmp_ge (tgt := 85) dX7_find_52 (by decide) (fun z => absurd z (il_nle n k hk)) (fun _ => ?_)
  refine ax_iload dX7_find_55 rfl ?_
  refine ax_if_eq (tgt := 85) dX7_find_57 (by decide) (fun z => absurd z (by decide)) (fun _ => ?_)
  refine ax_aload dX7_find_60 rfl ?_
  refine ax_iload dX7_find_62 rfl ?_
  refine ax_ialdv (x := (nI z)) dX7_find_64 hcb (nI_in hkl (by omega)) (by rw [nI_clamp (by omega)]; exact h2) ?_
  refine ax_aload_n dX7_find_65 rfl ?_
  refine ax_iload dX7_find_66 rfl ?_
  refine ax_ialdv (x := (nI x)) dX7_find_68 hca (nI_in hkN (by omega)) (by rw [nI_clamp (by omega)]; exact h1) ?_
  refine ax_icmp_ne (tgt := 76) dX7_find_69 (by decide) (fun _ => ?_) (fun z => absurd z hxz)
  refine ax_iconst (v := 0) dX7_find_76 (by decide) ?_
  refine ax_istore dX7_find_77 (by decide) ?_
  refine ax_sub (lv' := [(0, .ref (A.1 0)), (1, .int (nI t)), (2, .ref ca), (3, .int (nI n)), (4, .int (nI r)), (5, .ref b), (6, .int 0), (7, .int (nI k))]) (fun _ z => z) ?_
  refine ax_iinc (v := (nI (k + 1))) dX7_find_79 rfl (nI_1 k) (by decide) ?_
  refine ax_sub (lv' := [(0, .ref (A.1 0)), (1, .int (nI t)), (2, .ref ca), (3, .int (nI n)), (4, .int (nI r)), (5, .ref b), (6, .int 0), (7, .int (nI (k + 1)))]) (fun _ z => z) ?_
  refine ax_goto (tgt := 49) dX7_find_82 (by decide) ?_
  exact kk
theorem fi_yes (hA : rw_nd A) (d : Nat) (R : rw_S) (h : ax_H) {ca N : Nat} {f : Nat → Int32} (hca : rw_O A R h ca = some (.inl (0, N, .inl f))) {t n r : Nat} (ht : t < 4) (hn : n ≤ 100) {b lw : Nat} {fb : Nat → Int32} (hcb : rw_O A R h b = some (.inl (0, lw, .inl fb))) {Q : ax_P} (hq : Q (.inl (some (.int (nI r)))) (rw_O A R h)) : AW G mX7_find (d + 1) 0 0 Q 49 [(0, .ref (A.1 0)), (1, .int (nI t)), (2, .ref ca), (3, .int (nI n)), (4, .int (nI r)), (5, .ref b), (6, .int 1), (7, .int (nI n))] [] (rw_O A R h) 0 0 := by
  refine ax_iload dX7_find_49 rfl ?_
  refine ax_iload_n dX7_find_51 rfl ?_
  refine ax_icmp_ge (tgt := 85) dX7_find_52 (by decide) (fun _ => ?_) (fun z => absurd (il_le n n (Nat.le_refl _)) z)
  refine ax_iload dX7_find_85 rfl ?_
  refine ax_if_eq (tgt := 93) dX7_find_87 (by decide) (fun z => absurd z (by decide)) (fun _ => ?_)
  refine ax_iload dX7_find_90 rfl ?_
  exact ax_iret (st := []) dX7_find_92 rfl rfl hq
theorem fi_end (hA : rw_nd A) (d : Nat) (R : rw_S) (h : ax_H) {ca N : Nat} {f : Nat → Int32} (hca : rw_O A R h ca = some (.inl (0, N, .inl f))) {t n r : Nat} (ht : t < 4) (hn : n ≤ 100) {cnt : Nat} (hcnt : R.2.1 8 t = nI cnt) (hc3 : cnt ≤ 300) {Q : ax_P} (hq : Q (.inl (some (.int (-1)))) (rw_O A R h)) : AW G mX7_find (d + 1) 0 0 Q 7 [(0, .ref (A.1 0)), (1, .int (nI t)), (2, .ref ca), (3, .int (nI n)), (4, .int (nI cnt))] [] (rw_O A R h) 0 0 := by
  refine ax_iload dX7_find_7 rfl ?_
  refine ax_aload_n dX7_find_9 rfl ?_
  refine ax_get (v := .ref (A.1 8)) dX7_find_10 fkX7_40 (rw_g0 hA) rfl ?_
  refine ax_iload_n dX7_find_13 rfl ?_
  refine ax_ialdv (x := (nI cnt)) dX7_find_14 (rw_g8 hA) (nI_in ht (by decide)) (by rw [nI_clamp (by omega)]; exact hcnt) ?_
  refine ax_icmp_ge (tgt := 99) dX7_find_15 (by decide) (fun _ => ?_) (fun z => absurd (il_le cnt cnt (Nat.le_refl _)) z)
  refine ax_iconst (v := (-1)) dX7_find_99 (by decide) ?_
  exact ax_iret (st := []) dX7_find_100 rfl rfl hq
theorem fi_row1 (hA : rw_nd A) (d : Nat) (R : rw_S) (h : ax_H) {ca N : Nat} {f : Nat → Int32} (hca : rw_O A R h ca = some (.inl (0, N, .inl f))) {t n r : Nat} (ht : t < 4) (hn : n ≤ 100) {b lw : Nat} {fb : Nat → Int32} (hcb : rw_O A R h b = some (.inl (0, lw, .inl fb))) {cnt v : Nat} (hcnt : R.2.1 8 t = nI cnt) (hc3 : cnt ≤ 300) (hr : r < cnt) (hrow : R.2.1 9 (300 * t + r) = nI v) (hv : v < 300) (hb : R.2.2 v = some b) (hl : lw = n) {Q : ax_P} (kk : AW G mX7_find (d + 1) 0 0 Q 49 [(0, .ref (A.1 0)), (1, .int (nI t)), (2, .ref ca), (3, .int (nI n)), (4, .int (nI r)), (5, .ref b), (6, .int 1), (7, .int (nI 0))] [] (rw_O A R h) 0 0) : AW G mX7_find (d + 1) 0 0 Q 7 [(0, .ref (A.1 0)), (1, .int (nI t)), (2, .ref ca), (3, .int (nI n)), (4, .int (nI r))] [] (rw_O A R h) 0 0 := by
  refine ax_iload dX7_find_7 rfl ?_
  refine ax_aload_n dX7_find_9 rfl ?_
  refine ax_get (v := .ref (A.1 8)) dX7_find_10 fkX7_40 (rw_g0 hA) rfl ?_
  refine ax_iload_n dX7_find_13 rfl ?_
  refine ax_ialdv (x := (nI cnt)) dX7_find_14 (rw_g8 hA) (nI_in ht (by decide)) (by rw [nI_clamp (by omega)]; exact hcnt) ?_
  refine ax_icmp_ge (tgt := 99) dX7_find_15 (by decide) (fun z => absurd z (il_nle cnt r hr)) (fun _ => ?_)
  refine ax_aload_n dX7_find_18 rfl ?_
  refine ax_get (v := .ref (A.1 5)) dX7_find_19 fkX7_30 (rw_g0 hA) rfl ?_
  refine ax_aload_n dX7_find_22 rfl ?_
  refine ax_iload_n dX7_find_23 rfl ?_
  refine ax_iload dX7_find_24 rfl ?_
  refine ax_callV (b := (A.1 0)) (av := [.int (nI t), .int (nI r)]) (rest := [.ref (A.1 5)]) (mc' := 0) (ms' := 0) dX7_find_26 rfl lkX7_110 (rw_g0 hA) rfl (Nat.le_of_ble_eq_true rfl) (Nat.le_of_ble_eq_true rfl) (by decide) (by decide) (r_value hA _ R h (t := t) (k := r) ht (by omega) hrow) (fun E9 h9 q9 => by cases q9.1) (fun v9 h9 q9 => ?_)
  obtain ⟨e9, rfl⟩ := q9
  cases e9
  show AW G mX7_find (d + 1) 0 0 _ 29 [(0, .ref (A.1 0)), (1, .int (nI t)), (2, .ref ca), (3, .int (nI n)), (4, .int (nI r))] [.int (nI v), .ref (A.1 5)] (rw_O A R h) 0 0
  refine ax_raald dX7_find_29 (rw_g5 hA) (nI_in hv (by decide)) (w := b) (by rw [nI_clamp (by omega)]; exact hb) ?_
  refine ax_astore dX7_find_30 (by decide) ?_
  refine ax_sub (lv' := [(0, .ref (A.1 0)), (1, .int (nI t)), (2, .ref ca), (3, .int (nI n)), (4, .int (nI r)), (5, .ref b)]) (fun _ z => z) ?_
  refine ax_aload dX7_find_32 rfl ?_
  refine ax_alen (n := lw) dX7_find_34 hcb (by decide) ?_
  refine ax_iload_n dX7_find_35 rfl ?_
  refine ax_icmp_ne (tgt := 43) dX7_find_36 (by decide) (fun z => absurd (by rw [hl]) z) (fun _ => ?_)
  refine ax_iconst (v := 1) dX7_find_39 (by decide) ?_
  refine ax_goto (tgt := 44) dX7_find_40 (by decide) ?_
  refine ax_istore dX7_find_44 (by decide) ?_
  refine ax_sub (lv' := [(0, .ref (A.1 0)), (1, .int (nI t)), (2, .ref ca), (3, .int (nI n)), (4, .int (nI r)), (5, .ref b), (6, .int 1)]) (fun _ z => z) ?_
  refine ax_iconst (v := 0) dX7_find_46 (by decide) ?_
  refine ax_istore dX7_find_47 (by decide) ?_
  refine ax_sub (lv' := [(0, .ref (A.1 0)), (1, .int (nI t)), (2, .ref ca), (3, .int (nI n)), (4, .int (nI r)), (5, .ref b), (6, .int 1), (7, .int 0)]) (fun _ z => z) ?_
  exact kk
theorem fi_row0 (hA : rw_nd A) (d : Nat) (R : rw_S) (h : ax_H) {ca N : Nat} {f : Nat → Int32} (hca : rw_O A R h ca = some (.inl (0, N, .inl f))) {t n r : Nat} (ht : t < 4) (hn : n ≤ 100) {b lw : Nat} {fb : Nat → Int32} (hcb : rw_O A R h b = some (.inl (0, lw, .inl fb))) {cnt v : Nat} (hcnt : R.2.1 8 t = nI cnt) (hc3 : cnt ≤ 300) (hr : r < cnt) (hrow : R.2.1 9 (300 * t + r) = nI v) (hv : v < 300) (hb : R.2.2 v = some b) (hl : lw ≠ n) (hl1 : lw ≤ 100) {Q : ax_P} (kk : AW G mX7_find (d + 1) 0 0 Q 49 [(0, .ref (A.1 0)), (1, .int (nI t)), (2, .ref ca), (3, .int (nI n)), (4, .int (nI r)), (5, .ref b), (6, .int 0), (7, .int (nI 0))] [] (rw_O A R h) 0 0) : AW G mX7_find (d + 1) 0 0 Q 7 [(0, .ref (A.1 0)), (1, .int (nI t)), (2, .ref ca), (3, .int (nI n)), (4, .int (nI r))] [] (rw_O A R h) 0 0 := by
  refine ax_iload dX7_find_7 rfl ?_
  refine ax_aload_n dX7_find_9 rfl ?_
  refine ax_get (v := .ref (A.1 8)) dX7_find_10 fkX7_40 (rw_g0 hA) rfl ?_
  refine ax_iload_n dX7_find_13 rfl ?_
  refine ax_ialdv (x := (nI cnt)) dX7_find_14 (rw_g8 hA) (nI_in ht (by decide)) (by rw [nI_clamp (by omega)]; exact hcnt) ?_
  refine ax_icmp_ge (tgt := 99) dX7_find_15 (by decide) (fun z => absurd z (il_nle cnt r hr)) (fun _ => ?_)
  refine ax_aload_n dX7_find_18 rfl ?_
  refine ax_get (v := .ref (A.1 5)) dX7_find_19 fkX7_30 (rw_g0 hA) rfl ?_
  refine ax_aload_n dX7_find_22 rfl ?_
  refine ax_iload_n dX7_find_23 rfl ?_
  refine ax_iload dX7_find_24 rfl ?_
  refine ax_callV (b := (A.1 0)) (av := [.int (nI t), .int (nI r)]) (rest := [.ref (A.1 5)]) (mc' := 0) (ms' := 0) dX7_find_26 rfl lkX7_110 (rw_g0 hA) rfl (Nat.le_of_ble_eq_true rfl) (Nat.le_of_ble_eq_true rfl) (by decide) (by decide) (r_value hA _ R h (t := t) (k := r) ht (by omega) hrow) (fun E9 h9 q9 => by cases q9.1) (fun v9 h9 q9 => ?_)
  obtain ⟨e9, rfl⟩ := q9
  cases e9
  show AW G mX7_find (d + 1) 0 0 _ 29 [(0, .ref (A.1 0)), (1, .int (nI t)), (2, .ref ca), (3, .int (nI n)), (4, .int (nI r))] [.int (nI v), .ref (A.1 5)] (rw_O A R h) 0 0
  refine ax_raald dX7_find_29 (rw_g5 hA) (nI_in hv (by decide)) (w := b) (by rw [nI_clamp (by omega)]; exact hb) ?_
  refine ax_astore dX7_find_30 (by decide) ?_
  refine ax_sub (lv' := [(0, .ref (A.1 0)), (1, .int (nI t)), (2, .ref ca), (3, .int (nI n)), (4, .int (nI r)), (5, .ref b)]) (fun _ z => z) ?_
  refine ax_aload dX7_find_32 rfl ?_
  refine ax_alen (n := lw) dX7_find_34 hcb (by decide) ?_
  refine ax_iload_n dX7_find_35 rfl ?_
  refine ax_icmp_ne (tgt := 43) dX7_find_36 (by decide) (fun _ => ?_) (fun z => absurd z (il_ne lw n hl))
  refine ax_iconst (v := 0) dX7_find_43 (by decide) ?_
  refine ax_istore dX7_find_44 (by decide) ?_
  refine ax_sub (lv' := [(0, .ref (A.1 0)), (1, .int (nI t)), (2, .ref ca), (3, .int (nI n)), (4, .int (nI r)), (5, .ref b), (6, .int 0)]) (fun _ z => z) ?_
  refine ax_iconst (v := 0) dX7_find_46 (by decide) ?_
  refine ax_istore dX7_find_47 (by decide) ?_
  refine ax_sub (lv' := [(0, .ref (A.1 0)), (1, .int (nI t)), (2, .ref ca), (3, .int (nI n)), (4, .int (nI r)), (5, .ref b), (6, .int 0), (7, .int 0)]) (fun _ z => z) ?_
  exact kk
def fi_res (T : List sp_E) (t : Nat) (L : List Nat) : Int32 := match (sp_of T t).find? (fun w => decide (sp_cd T w = L)) with
  | none => -1
  | some w => nI (sp_rk T w)
theorem r_find (hA : rw_nd A) (d : Nat) (R : rw_S) (h : ax_H) {ca N : Nat} {f : Nat → Int32} {L : List Nat} (hcd : rw_cd L N f) (hL : ∀ a ∈ L, a ≤ 105) (hca : rw_O A R h ca = some (.inl (0, N, .inl f))) (h12 : R.1 12 = 1) {T : List sp_E} (hT : rw_T A R h T) (hwT : sp_wT T) (hE : ∀ v e, T[v]? = some e → ∀ a ∈ sp_cd T v, a ≤ 105) {t : Nat} (ht : t < 4) : AW G mX7_find (d + 2) 0 0 (fun r h1 => r = .inl (some (.int (fi_res T t L))) ∧ h1 = (rw_O A R h)) 0 [(0, .ref (A.1 0)), (1, .int (nI t)), (2, .ref ca), (3, .int (nI L.length))] [] (rw_O A R h) 0 0 := by
  obtain ⟨l1, l2, l3⟩ := hcd
  have hc3 : sp_cnt T t ≤ 300 := Nat.le_trans (sp_cnt_le T t) hwT.1
  obtain ⟨Q, hQ⟩ : ∃ Q : ax_P, Q = (fun r h1 => r = .inl (some (.int (fi_res T t L))) ∧ h1 = (rw_O A R h)) := ⟨_, rfl⟩
  rw [← hQ]
  have loop : ∀ (i r : Nat), r + i = sp_cnt T t → (∀ j w, j < r → (sp_of T t)[j]? = some w → sp_cd T w ≠ L) → AW G mX7_find (d + 1 + 1) 0 0 Q 7 [(0, .ref (A.1 0)), (1, .int (nI t)), (2, .ref ca), (3, .int (nI L.length)), (4, .int (nI r))] [] (rw_O A R h) 0 0 := by
    intro i
    induction i with
    | zero =>
      intro r hr hall
      have hr : r = sp_cnt T t := by omega
      subst hr
      refine fi_end hA (d + 1) R h hca ht (by omega) (r := 0) (hT.2.1 t ht) hc3 ?_
      rw [hQ]
      refine ⟨?_, rfl⟩
      unfold fi_res
      rw [List.find?_eq_none.mpr (fun x hx => ?_)]
      obtain ⟨j, hj⟩ := List.getElem?_of_mem hx
      have hjl := (List.getElem?_eq_some_iff.mp hj).1
      rw [sp_of_len] at hjl
      simp only [decide_eq_true_eq]
      exact hall j x hjl hj
    | succ i ih =>
      intro r hr hall
      have hl : r < (sp_of T t).length := by rw [sp_of_len]; omega
      have hw : (sp_of T t)[r]? = some (sp_of T t)[r] := List.getElem?_eq_getElem hl
      obtain ⟨e, f1, f2, f3, f4, f5, f6, f7, f8, f9, f10, ⟨b, f11, fb, f12, f13⟩, f14, f15⟩ := rw_T_at hT hwT hw
      have hlb : (sp_cd T (sp_of T t)[r]).length ≤ 100 := by
        rw [sp_cd_len hwT _ _ f1]
        obtain ⟨y1, y2, y3, y4, y5, -⟩ := hwT.2 _ _ f1
        omega
      have nxt : sp_cd T (sp_of T t)[r] ≠ L → AW G mX7_find (d + 1 + 1) 0 0 Q 7 [(0, .ref (A.1 0)), (1, .int (nI t)), (2, .ref ca), (3, .int (nI L.length)), (4, .int (nI (r + 1)))] [] (rw_O A R h) 0 0 := fun hne => by
        refine ih (r + 1) (by omega) (fun j w hj hjw => ?_)
        by_cases hjr : j = r
        · subst hjr; rw [hw] at hjw; cases hjw; exact hne
        · exact hall j w (by omega) hjw
      by_cases hll : (sp_cd T (sp_of T t)[r]).length = L.length
      · refine fi_row1 hA (d + 1) R h hca ht (by omega) (rw_rd f12) (hT.2.1 t ht) hc3 (by omega) f8 f4 f11 hll ?_
        have inner : ∀ (m k : Nat), k + m = L.length → (∀ j, j < k → (sp_cd T (sp_of T t)[r])[j]? = L[j]?) → AW G mX7_find (d + 1 + 1) 0 0 Q 49 [(0, .ref (A.1 0)), (1, .int (nI t)), (2, .ref ca), (3, .int (nI L.length)), (4, .int (nI r)), (5, .ref b), (6, .int 1), (7, .int (nI k))] [] (rw_O A R h) 0 0 := by
          intro m
          induction m with
          | zero =>
            intro k hk hsame
            have hk : k = L.length := by omega
            subst hk
            have heq : sp_cd T (sp_of T t)[r] = L := by
              refine List.ext_getElem? (fun j => ?_)
              by_cases hj : j < L.length
              · exact hsame j hj
              · rw [List.getElem?_eq_none (by omega), List.getElem?_eq_none (by omega)]
            refine fi_yes hA (d + 1) R h hca ht (by omega) (rw_rd f12) ?_
            rw [hQ]
            refine ⟨?_, rfl⟩
            unfold fi_res
            have hfi : (sp_of T t).find? (fun w => decide (sp_cd T w = L)) = some (sp_of T t)[r] := by
              have hsp : sp_of T t = (sp_of T t).take r ++ (sp_of T t)[r] :: (sp_of T t).drop (r + 1) := by
                rw [← List.drop_eq_getElem_cons hl, List.take_append_drop]
              refine List.find?_eq_some_iff_append.mpr ⟨by simp [heq], _, _, hsp, fun a ha => ?_⟩
              obtain ⟨j, hj⟩ := List.getElem?_of_mem ha
              have hjl := (List.getElem?_eq_some_iff.mp hj).1
              rw [List.length_take] at hjl
              rw [List.getElem?_take_of_lt (by omega)] at hj
              have := hall j a (by omega) hj
              simp [this]
            rw [hfi]
            show _ = Sum.inl (some (Value.int (nI (sp_rk T (sp_of T t)[r]))))
            rw [(sp_rk_of hw).2.2]
          | succ m ihm =>
            intro k hk hsame
            have hkL : k < L.length := by omega
            have hkb : k < (sp_cd T (sp_of T t)[r]).length := by omega
            have hxe := l3 k _ (List.getElem?_eq_getElem hkL)
            have hze := f13 k _ (List.getElem?_eq_getElem hkb)
            by_cases hxz : (sp_cd T (sp_of T t)[r])[k] = L[k]
            · refine fi_eq hA (d + 1) R h hca ht (by omega) (rw_rd f12) hkL (by omega) hkb hlb l2 hxe (by rw [hze, hxz]) (ihm (k + 1) (by omega) (fun j hj => ?_))
              by_cases hjk : j = k
              · subst hjk; rw [List.getElem?_eq_getElem hkL, List.getElem?_eq_getElem hkb, hxz]
              · exact hsame j (by omega)
            · have b1 := hL _ (List.getElem_mem hkL)
              have b2 := hE _ _ f1 _ (List.getElem_mem hkb)
              refine fi_ne hA (d + 1) R h hca ht (by omega) (rw_rd f12) hkL (by omega) hkb hlb l2 hxe hze (fun z => hxz ((nI_eq (by omega) (by omega)).mp z)) (fi_no hA (d + 1) R h hca ht (by omega) (rw_rd f12) (by omega) (nxt (fun e9 => hxz ?_)))
              have : (sp_cd T (sp_of T t)[r])[k]? = L[k]? := by rw [e9]
              rw [List.getElem?_eq_getElem hkL, List.getElem?_eq_getElem hkb] at this
              exact Option.some.inj this
        exact inner L.length 0 (by omega) (fun j hj => absurd hj (by omega))
      · exact fi_row0 hA (d + 1) R h hca ht (by omega) (rw_rd f12) (hT.2.1 t ht) hc3 (by omega) f8 f4 f11 hll hlb (fi_no hA (d + 1) R h hca ht (by omega) (rw_rd f12) (by omega) (nxt (fun e9 => hll (by rw [e9]))))
  refine ax_aload_n dX7_find_0 rfl ?_
  refine ax_callV (b := (A.1 0)) (av := []) (rest := []) (mc' := 0) (ms' := 0) dX7_find_1 rfl lkX7_137 (rw_g0 hA) rfl (Nat.le_of_ble_eq_true rfl) (Nat.le_of_ble_eq_true rfl) (by decide) (by decide) (r_make1 hA _ R h h12 (Q := fun r h1 => r = .inl none ∧ h1 = rw_O A R h) ⟨rfl, rfl⟩) (fun E9 h9 q9 => by cases q9.1) (fun v9 h9 q9 => ?_)
  obtain ⟨e9, rfl⟩ := q9
  cases e9
  show AW G mX7_find (d + 1 + 1) 0 0 _ 4 [(0, .ref (A.1 0)), (1, .int (nI t)), (2, .ref ca), (3, .int (nI L.length))] [] (rw_O A R h) 0 0
  refine ax_iconst (v := 0) dX7_find_4 (by decide) ?_
  refine ax_istore dX7_find_5 (by decide) ?_
  refine ax_sub (lv' := [(0, .ref (A.1 0)), (1, .int (nI t)), (2, .ref ca), (3, .int (nI L.length)), (4, .int 0)]) (fun _ z => z) ?_
  exact loop (sp_cnt T t) 0 (by omega) (fun j w hj => absurd hj (by omega))
end RP6
