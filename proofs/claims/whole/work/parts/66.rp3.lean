/-! ===== the reference: a property of a value ===== -/
section RP3
variable {G : ax_G} {A : rw_Ad}

set_option maxRecDepth 100000 in
set_option maxHeartbeats 4000000 in
theorem tf_int (hA : rw_nd A) (d : Nat) (s : Nat → Int32) (R2 : (Nat → Nat → Int32) × (Nat → Option Nat)) (h : ax_H) {ca N : Nat} {f : Nat → Int32} (hca : ∀ s, rw_O A (s, R2) h ca = some (.inl (0, N, .inl f))) {v pr c p lo hg k : Nat} (hc : c < 6) (hk : k < 3) (h9 : R2.1 2 (3 * c + k) = nI 9) {Q : ax_P} (kk : AW G mX7_isTrueOf (d + 1) 0 0 Q 28 [(0, .ref (A.1 0)), (1, .int (nI v)), (2, .int (nI pr)), (3, .ref ca), (4, .int (nI c)), (5, .int (nI (p + 1))), (6, .int (nI lo)), (7, .int (nI hg)), (8, .int (nI (k + 1)))] [] (rw_O A (s, R2) h) 0 0) : AW G mX7_isTrueOf (d + 1) 0 0 Q 28 [(0, .ref (A.1 0)), (1, .int (nI v)), (2, .int (nI pr)), (3, .ref ca), (4, .int (nI c)), (5, .int (nI p)), (6, .int (nI lo)), (7, .int (nI hg)), (8, .int (nI k))] [] (rw_O A (s, R2) h) 0 0 := by
  refine ax_iload dX7_isTrueOf_28 rfl ?_
  refine ax_iconst (v := 3) dX7_isTrueOf_30 (by decide) ?_
  refine ax_icmp_ge (tgt := 118) dX7_isTrueOf_31 (by decide) (fun z => absurd z (il_nle 3 k hk)) (fun _ => ?_)
  refine ax_aload_n dX7_isTrueOf_34 rfl ?_
  refine ax_get (v := .ref (A.1 2)) dX7_isTrueOf_35 fkX7_17 (rw_g0 hA) rfl ?_
  refine ax_iconst (v := 3) dX7_isTrueOf_38 (by decide) ?_
  refine ax_iload dX7_isTrueOf_39 rfl ?_
  refine ax_imul dX7_isTrueOf_41 ?_
  refine ax_top (y := (nI (3 * c))) ((pk_mul 3 c)) ?_
  refine ax_iload dX7_isTrueOf_42 rfl ?_
  refine ax_iadd dX7_isTrueOf_44 ?_
  refine ax_top (y := (nI (3 * c + k))) (nI_add _ _) ?_
  refine ax_ialdv (x := (nI 9)) dX7_isTrueOf_45 (rw_g2 hA) (nI_in (by omega) (by decide)) (by rw [nI_clamp (by omega)]; exact h9) ?_
  refine ax_iconst (v := (-1)) dX7_isTrueOf_46 (by decide) ?_
  refine ax_icmp_eq (tgt := 118) dX7_isTrueOf_47 (by decide) (fun z => absurd z (by decide)) (fun _ => ?_)
  refine ax_aload_n dX7_isTrueOf_50 rfl ?_
  refine ax_get (v := .ref (A.1 2)) dX7_isTrueOf_51 fkX7_17 (rw_g0 hA) rfl ?_
  refine ax_iconst (v := 3) dX7_isTrueOf_54 (by decide) ?_
  refine ax_iload dX7_isTrueOf_55 rfl ?_
  refine ax_imul dX7_isTrueOf_57 ?_
  refine ax_top (y := (nI (3 * c))) ((pk_mul 3 c)) ?_
  refine ax_iload dX7_isTrueOf_58 rfl ?_
  refine ax_iadd dX7_isTrueOf_60 ?_
  refine ax_top (y := (nI (3 * c + k))) (nI_add _ _) ?_
  refine ax_ialdv (x := (nI 9)) dX7_isTrueOf_61 (rw_g2 hA) (nI_in (by omega) (by decide)) (by rw [nI_clamp (by omega)]; exact h9) ?_
  refine ax_istore dX7_isTrueOf_62 (by decide) ?_
  refine ax_sub (lv' := [(0, .ref (A.1 0)), (1, .int (nI v)), (2, .int (nI pr)), (3, .ref ca), (4, .int (nI c)), (5, .int (nI p)), (6, .int (nI lo)), (7, .int (nI hg)), (8, .int (nI k)), (9, .int (nI 9))]) (fun _ z => z) ?_
  refine ax_iload dX7_isTrueOf_64 rfl ?_
  refine ax_bipush (v := 9) dX7_isTrueOf_66 (by decide) ?_
  refine ax_icmp_ne (tgt := 77) dX7_isTrueOf_68 (by decide) (fun z => absurd (by decide) z) (fun _ => ?_)
  refine ax_iinc (v := (nI (p + 1))) dX7_isTrueOf_71 rfl (nI_1 p) (by decide) ?_
  refine ax_sub (lv' := [(0, .ref (A.1 0)), (1, .int (nI v)), (2, .int (nI pr)), (3, .ref ca), (4, .int (nI c)), (5, .int (nI (p + 1))), (6, .int (nI lo)), (7, .int (nI hg)), (8, .int (nI k)), (9, .int (nI 9))]) (fun _ z => z) ?_
  refine ax_goto (tgt := 112) dX7_isTrueOf_74 (by decide) ?_
  refine ax_iinc (v := (nI (k + 1))) dX7_isTrueOf_112 rfl (nI_1 k) (by decide) ?_
  refine ax_sub (lv' := [(0, .ref (A.1 0)), (1, .int (nI v)), (2, .int (nI pr)), (3, .ref ca), (4, .int (nI c)), (5, .int (nI (p + 1))), (6, .int (nI lo)), (7, .int (nI hg)), (8, .int (nI (k + 1))), (9, .int (nI 9))]) (fun _ z => z) ?_
  refine ax_goto (tgt := 28) dX7_isTrueOf_115 (by decide) ?_
  exact ax_sub (fun q hq => List.mem_append_left [(9, Value.int (nI 9))] hq) kk
theorem tf_part (hA : rw_nd A) (d : Nat) (s : Nat → Int32) (R2 : (Nat → Nat → Int32) × (Nat → Option Nat)) (h : ax_H) {ca N : Nat} {f : Nat → Int32} (hca : ∀ s, rw_O A (s, R2) h ca = some (.inl (0, N, .inl f))) {v pr c p lo hg k : Nat} {u p2 t2 : Nat} (hc : c < 6) (hk : k < 3) (hu : u < 4) (hlo : lo ≤ 8) (hhg : hg ≤ 8) (ht2 : t2 ≤ 8) (h9 : R2.1 2 (3 * c + k) = nI u) {P1 : (Nat → Int32) → Prop} (hlk : AW G mX7_look d 0 0 (fun r h1 => ∃ s', h1 = rw_O A (s', R2) h ∧ r = .inl (some (.int (nI p2))) ∧ s' 21 = nI t2 ∧ P1 s') 0 [(0, .ref (A.1 0)), (1, .ref ca), (2, .int (nI N)), (3, .int (nI p)), (4, .int (nI u))] [] (rw_O A (s, R2) h) 0 0) {Q : ax_P} (kk : ∀ s1, P1 s1 → AW G mX7_isTrueOf (d + 1) 0 0 Q 28 [(0, .ref (A.1 0)), (1, .int (nI v)), (2, .int (nI pr)), (3, .ref ca), (4, .int (nI c)), (5, .int (nI p2)), (6, .int (nI (min lo t2))), (7, .int (nI (max hg t2))), (8, .int (nI (k + 1)))] [] (rw_O A (s1, R2) h) 0 0) : AW G mX7_isTrueOf (d + 1) 0 0 Q 28 [(0, .ref (A.1 0)), (1, .int (nI v)), (2, .int (nI pr)), (3, .ref ca), (4, .int (nI c)), (5, .int (nI p)), (6, .int (nI lo)), (7, .int (nI hg)), (8, .int (nI k))] [] (rw_O A (s, R2) h) 0 0 := by
  have hmn : (if nI t2 < nI lo then nI t2 else nI lo) = nI (min lo t2) := by
    by_cases z : t2 < lo
    · rw [if_pos (il_lt t2 lo z), show min lo t2 = t2 by omega]
    · rw [if_neg (il_nlt t2 lo (by omega)), show min lo t2 = lo by omega]
  have hmx : (if nI hg < nI t2 then nI t2 else nI hg) = nI (max hg t2) := by
    by_cases z : hg < t2
    · rw [if_pos (il_lt hg t2 z), show max hg t2 = t2 by omega]
    · rw [if_neg (il_nlt hg t2 (by omega)), show max hg t2 = hg by omega]
  refine ax_iload dX7_isTrueOf_28 rfl ?_
  refine ax_iconst (v := 3) dX7_isTrueOf_30 (by decide) ?_
  refine ax_icmp_ge (tgt := 118) dX7_isTrueOf_31 (by decide) (fun z => absurd z (il_nle 3 k hk)) (fun _ => ?_)
  refine ax_aload_n dX7_isTrueOf_34 rfl ?_
  refine ax_get (v := .ref (A.1 2)) dX7_isTrueOf_35 fkX7_17 (rw_g0 hA) rfl ?_
  refine ax_iconst (v := 3) dX7_isTrueOf_38 (by decide) ?_
  refine ax_iload dX7_isTrueOf_39 rfl ?_
  refine ax_imul dX7_isTrueOf_41 ?_
  refine ax_top (y := (nI (3 * c))) ((pk_mul 3 c)) ?_
  refine ax_iload dX7_isTrueOf_42 rfl ?_
  refine ax_iadd dX7_isTrueOf_44 ?_
  refine ax_top (y := (nI (3 * c + k))) (nI_add _ _) ?_
  refine ax_ialdv (x := (nI u)) dX7_isTrueOf_45 (rw_g2 hA) (nI_in (by omega) (by decide)) (by rw [nI_clamp (by omega)]; exact h9) ?_
  refine ax_iconst (v := (-1)) dX7_isTrueOf_46 (by decide) ?_
  refine ax_icmp_eq (tgt := 118) dX7_isTrueOf_47 (by decide) (fun z => absurd z (nI_m1 (by omega))) (fun _ => ?_)
  refine ax_aload_n dX7_isTrueOf_50 rfl ?_
  refine ax_get (v := .ref (A.1 2)) dX7_isTrueOf_51 fkX7_17 (rw_g0 hA) rfl ?_
  refine ax_iconst (v := 3) dX7_isTrueOf_54 (by decide) ?_
  refine ax_iload dX7_isTrueOf_55 rfl ?_
  refine ax_imul dX7_isTrueOf_57 ?_
  refine ax_top (y := (nI (3 * c))) ((pk_mul 3 c)) ?_
  refine ax_iload dX7_isTrueOf_58 rfl ?_
  refine ax_iadd dX7_isTrueOf_60 ?_
  refine ax_top (y := (nI (3 * c + k))) (nI_add _ _) ?_
  refine ax_ialdv (x := (nI u)) dX7_isTrueOf_61 (rw_g2 hA) (nI_in (by omega) (by decide)) (by rw [nI_clamp (by omega)]; exact h9) ?_
  refine ax_istore dX7_isTrueOf_62 (by decide) ?_
  refine ax_sub (lv' := [(0, .ref (A.1 0)), (1, .int (nI v)), (2, .int (nI pr)), (3, .ref ca), (4, .int (nI c)), (5, .int (nI p)), (6, .int (nI lo)), (7, .int (nI hg)), (8, .int (nI k)), (9, .int (nI u))]) (fun _ z => z) ?_
  refine ax_iload dX7_isTrueOf_64 rfl ?_
  refine ax_bipush (v := 9) dX7_isTrueOf_66 (by decide) ?_
  refine ax_icmp_ne (tgt := 77) dX7_isTrueOf_68 (by decide) (fun _ => ?_) (fun z => absurd z (il_ne u 9 (by omega)))
  refine ax_aload_n dX7_isTrueOf_77 rfl ?_
  refine ax_aload_n dX7_isTrueOf_78 rfl ?_
  refine ax_aload_n dX7_isTrueOf_79 rfl ?_
  refine ax_alen (n := N) dX7_isTrueOf_80 (hca _) (by decide) ?_
  refine ax_iload dX7_isTrueOf_81 rfl ?_
  refine ax_iload dX7_isTrueOf_83 rfl ?_
  refine ax_callV (b := (A.1 0)) (av := [.ref ca, .int (nI N), .int (nI p), .int (nI u)]) (rest := []) (mc' := 0) (ms' := 0) dX7_isTrueOf_85 rfl lkX7_83 (rw_g0 hA) rfl (Nat.le_of_ble_eq_true rfl) (Nat.le_of_ble_eq_true rfl) (by decide) (by decide) (hlk) (fun E9 h9 q9 => by obtain ⟨s1, -, e9, -⟩ := q9; cases e9) (fun v9 h9 q9 => ?_)
  obtain ⟨s1, rfl, e9, o1, o2⟩ := q9
  cases e9
  have kk := kk s1 o2
  show AW G mX7_isTrueOf (d + 1) 0 0 _ 88 [(0, .ref (A.1 0)), (1, .int (nI v)), (2, .int (nI pr)), (3, .ref ca), (4, .int (nI c)), (5, .int (nI p)), (6, .int (nI lo)), (7, .int (nI hg)), (8, .int (nI k)), (9, .int (nI u))] [.int (nI p2)] (rw_O A (s1, R2) h) 0 0
  refine ax_istore dX7_isTrueOf_88 (by decide) ?_
  refine ax_sub (lv' := [(0, .ref (A.1 0)), (1, .int (nI v)), (2, .int (nI pr)), (3, .ref ca), (4, .int (nI c)), (5, .int (nI p2)), (6, .int (nI lo)), (7, .int (nI hg)), (8, .int (nI k)), (9, .int (nI u))]) (fun _ z => z) ?_
  refine ax_iload dX7_isTrueOf_90 rfl ?_
  refine ax_aload_n dX7_isTrueOf_92 rfl ?_
  refine ax_get (v := .int (nI t2)) dX7_isTrueOf_93 fkX7_90 (rw_g0 hA) (congrArg (fun z => some (Value.int z)) (o1)) ?_
  refine ax_mmin dX7_isTrueOf_96 mlX7_93 ax_mS_min ax_iMath ax_mC_min (Nat.le_of_ble_eq_true rfl) ?_
  refine ax_top (y := (nI (min lo t2))) (hmn) ?_
  refine ax_istore dX7_isTrueOf_99 (by decide) ?_
  refine ax_sub (lv' := [(0, .ref (A.1 0)), (1, .int (nI v)), (2, .int (nI pr)), (3, .ref ca), (4, .int (nI c)), (5, .int (nI p2)), (6, .int (nI (min lo t2))), (7, .int (nI hg)), (8, .int (nI k)), (9, .int (nI u))]) (fun _ z => z) ?_
  refine ax_iload dX7_isTrueOf_101 rfl ?_
  refine ax_aload_n dX7_isTrueOf_103 rfl ?_
  refine ax_get (v := .int (nI t2)) dX7_isTrueOf_104 fkX7_90 (rw_g0 hA) (congrArg (fun z => some (Value.int z)) (o1)) ?_
  refine ax_mmax dX7_isTrueOf_107 mlX7_99 ax_mS_max ax_iMath ax_mC_max (Nat.le_of_ble_eq_true rfl) ?_
  refine ax_top (y := (nI (max hg t2))) (hmx) ?_
  refine ax_istore dX7_isTrueOf_110 (by decide) ?_
  refine ax_sub (lv' := [(0, .ref (A.1 0)), (1, .int (nI v)), (2, .int (nI pr)), (3, .ref ca), (4, .int (nI c)), (5, .int (nI p2)), (6, .int (nI (min lo t2))), (7, .int (nI (max hg t2))), (8, .int (nI k)), (9, .int (nI u))]) (fun _ z => z) ?_
  refine ax_iinc (v := (nI (k + 1))) dX7_isTrueOf_112 rfl (nI_1 k) (by decide) ?_
  refine ax_sub (lv' := [(0, .ref (A.1 0)), (1, .int (nI v)), (2, .int (nI pr)), (3, .ref ca), (4, .int (nI c)), (5, .int (nI p2)), (6, .int (nI (min lo t2))), (7, .int (nI (max hg t2))), (8, .int (nI (k + 1))), (9, .int (nI u))]) (fun _ z => z) ?_
  refine ax_goto (tgt := 28) dX7_isTrueOf_115 (by decide) ?_
  exact ax_sub (fun q hq => List.mem_append_left [(9, Value.int (nI u))] hq) kk
theorem tf_x3 (hA : rw_nd A) (d : Nat) (s : Nat → Int32) (R2 : (Nat → Nat → Int32) × (Nat → Option Nat)) (h : ax_H) {ca N : Nat} {f : Nat → Int32} (hca : ∀ s, rw_O A (s, R2) h ca = some (.inl (0, N, .inl f))) {v pr c p lo hg : Nat} {Q : ax_P} (kk : AW G mX7_isTrueOf (d + 1) 0 0 Q 118 [(0, .ref (A.1 0)), (1, .int (nI v)), (2, .int (nI pr)), (3, .ref ca), (4, .int (nI c)), (5, .int (nI p)), (6, .int (nI lo)), (7, .int (nI hg)), (8, .int (nI 3))] [] (rw_O A (s, R2) h) 0 0) : AW G mX7_isTrueOf (d + 1) 0 0 Q 28 [(0, .ref (A.1 0)), (1, .int (nI v)), (2, .int (nI pr)), (3, .ref ca), (4, .int (nI c)), (5, .int (nI p)), (6, .int (nI lo)), (7, .int (nI hg)), (8, .int (nI 3))] [] (rw_O A (s, R2) h) 0 0 := by
  refine ax_iload dX7_isTrueOf_28 rfl ?_
  refine ax_iconst (v := 3) dX7_isTrueOf_30 (by decide) ?_
  refine ax_icmp_ge (tgt := 118) dX7_isTrueOf_31 (by decide) (fun _ => ?_) (fun z => absurd (by decide) z)
  exact kk
theorem tf_x10 (hA : rw_nd A) (d : Nat) (s : Nat → Int32) (R2 : (Nat → Nat → Int32) × (Nat → Option Nat)) (h : ax_H) {ca N : Nat} {f : Nat → Int32} (hca : ∀ s, rw_O A (s, R2) h ca = some (.inl (0, N, .inl f))) {v pr c p lo hg k : Nat} (hc : c < 6) (hk : k < 3) (h9 : R2.1 2 (3 * c + k) = -1) {Q : ax_P} (kk : AW G mX7_isTrueOf (d + 1) 0 0 Q 118 [(0, .ref (A.1 0)), (1, .int (nI v)), (2, .int (nI pr)), (3, .ref ca), (4, .int (nI c)), (5, .int (nI p)), (6, .int (nI lo)), (7, .int (nI hg)), (8, .int (nI k))] [] (rw_O A (s, R2) h) 0 0) : AW G mX7_isTrueOf (d + 1) 0 0 Q 28 [(0, .ref (A.1 0)), (1, .int (nI v)), (2, .int (nI pr)), (3, .ref ca), (4, .int (nI c)), (5, .int (nI p)), (6, .int (nI lo)), (7, .int (nI hg)), (8, .int (nI k))] [] (rw_O A (s, R2) h) 0 0 := by
  refine ax_iload dX7_isTrueOf_28 rfl ?_
  refine ax_iconst (v := 3) dX7_isTrueOf_30 (by decide) ?_
  refine ax_icmp_ge (tgt := 118) dX7_isTrueOf_31 (by decide) (fun z => absurd z (il_nle 3 k hk)) (fun _ => ?_)
  refine ax_aload_n dX7_isTrueOf_34 rfl ?_
  refine ax_get (v := .ref (A.1 2)) dX7_isTrueOf_35 fkX7_17 (rw_g0 hA) rfl ?_
  refine ax_iconst (v := 3) dX7_isTrueOf_38 (by decide) ?_
  refine ax_iload dX7_isTrueOf_39 rfl ?_
  refine ax_imul dX7_isTrueOf_41 ?_
  refine ax_top (y := (nI (3 * c))) ((pk_mul 3 c)) ?_
  refine ax_iload dX7_isTrueOf_42 rfl ?_
  refine ax_iadd dX7_isTrueOf_44 ?_
  refine ax_top (y := (nI (3 * c + k))) (nI_add _ _) ?_
  refine ax_ialdv (x := (-1)) dX7_isTrueOf_45 (rw_g2 hA) (nI_in (by omega) (by decide)) (by rw [nI_clamp (by omega)]; exact h9) ?_
  refine ax_iconst (v := (-1)) dX7_isTrueOf_46 (by decide) ?_
  refine ax_icmp_eq (tgt := 118) dX7_isTrueOf_47 (by decide) (fun _ => ?_) (fun z => absurd rfl z)
  exact kk
theorem tf_z (hA : rw_nd A) (d : Nat) (s : Nat → Int32) (R2 : (Nat → Nat → Int32) × (Nat → Option Nat)) (h : ax_H) {ca N : Nat} {f : Nat → Int32} (hca : ∀ s, rw_O A (s, R2) h ca = some (.inl (0, N, .inl f))) {v pr c p lo hg mn df : Nat} {kv : Int32} {b : Bool} (hmn : (if nI hg < nI lo then nI hg else nI lo) = nI mn) (hdf : nI hg - nI mn = nI df) (htr : AW G mX7_isTrue d 0 0 (fun r h1 => r = .inl (some (.int (if b then 1 else 0))) ∧ h1 = (rw_O A (s, R2) h)) 0 [(0, .ref (A.1 0)), (1, .int (nI pr)), (2, .ref ca), (3, .int 0), (4, .int (nI N)), (5, .int (nI df)), (6, .int (nI c))] [] (rw_O A (s, R2) h) 0 0) {Q : ax_P} (hq : Q (.inl (some (.int (if b then 1 else 0)))) (rw_O A (s, R2) h)) : AW G mX7_isTrueOf (d + 1) 0 0 Q 118 [(0, .ref (A.1 0)), (1, .int (nI v)), (2, .int (nI pr)), (3, .ref ca), (4, .int (nI c)), (5, .int (nI p)), (6, .int (nI lo)), (7, .int (nI hg)), (8, .int kv)] [] (rw_O A (s, R2) h) 0 0 := by
  refine ax_aload_n dX7_isTrueOf_118 rfl ?_
  refine ax_iload_n dX7_isTrueOf_119 rfl ?_
  refine ax_aload_n dX7_isTrueOf_120 rfl ?_
  refine ax_iconst (v := 0) dX7_isTrueOf_121 (by decide) ?_
  refine ax_aload_n dX7_isTrueOf_122 rfl ?_
  refine ax_alen (n := N) dX7_isTrueOf_123 (hca _) (by decide) ?_
  refine ax_iload dX7_isTrueOf_124 rfl ?_
  refine ax_iload dX7_isTrueOf_126 rfl ?_
  refine ax_iload dX7_isTrueOf_128 rfl ?_
  refine ax_mmin dX7_isTrueOf_130 mlX7_93 ax_mS_min ax_iMath ax_mC_min (Nat.le_of_ble_eq_true rfl) ?_
  refine ax_top (y := (nI mn)) (hmn) ?_
  refine ax_isub dX7_isTrueOf_133 ?_
  refine ax_top (y := (nI df)) (hdf) ?_
  refine ax_iload dX7_isTrueOf_134 rfl ?_
  refine ax_callV (b := (A.1 0)) (av := [.int (nI pr), .ref ca, .int 0, .int (nI N), .int (nI df), .int (nI c)]) (rest := []) (mc' := 0) (ms' := 0) dX7_isTrueOf_136 rfl lkX7_102 (rw_g0 hA) rfl (Nat.le_of_ble_eq_true rfl) (Nat.le_of_ble_eq_true rfl) (by decide) (by decide) (htr) (fun E9 h9 q9 => by cases q9.1) (fun v9 h9 q9 => ?_)
  obtain ⟨e9, rfl⟩ := q9
  cases e9
  show AW G mX7_isTrueOf (d + 1) 0 0 _ 139 [(0, .ref (A.1 0)), (1, .int (nI v)), (2, .int (nI pr)), (3, .ref ca), (4, .int (nI c)), (5, .int (nI p)), (6, .int (nI lo)), (7, .int (nI hg)), (8, .int kv)] [.int (if b then 1 else 0)] (rw_O A (s, R2) h) 0 0
  exact ax_iret (st := []) dX7_isTrueOf_139 rfl (by cases b <;> rfl) hq
theorem tf_beg (hA : rw_nd A) (d : Nat) (s : Nat → Int32) (R2 : (Nat → Nat → Int32) × (Nat → Option Nat)) (h : ax_H) {ca N : Nat} {f : Nat → Int32} (hca : ∀ s, rw_O A (s, R2) h ca = some (.inl (0, N, .inl f))) {v pr c : Nat} (hv : v < 300) (hb : R2.2 v = some ca) (hN : 0 < N) (hf : f 0 = nI (100 + c)) (hc : c < 6) {Q : ax_P} (kk : AW G mX7_isTrueOf (d + 1) 0 0 Q 28 [(0, .ref (A.1 0)), (1, .int (nI v)), (2, .int (nI pr)), (3, .ref ca), (4, .int (nI c)), (5, .int (nI 1)), (6, .int (nI 8)), (7, .int (nI 0)), (8, .int (nI 0))] [] (rw_O A (s, R2) h) 0 0) : AW G mX7_isTrueOf (d + 1) 0 0 Q 0 [(0, .ref (A.1 0)), (1, .int (nI v)), (2, .int (nI pr))] [] (rw_O A (s, R2) h) 0 0 := by
  refine ax_aload_n dX7_isTrueOf_0 rfl ?_
  refine ax_get (v := .ref (A.1 5)) dX7_isTrueOf_1 fkX7_30 (rw_g0 hA) rfl ?_
  refine ax_iload_n dX7_isTrueOf_4 rfl ?_
  refine ax_raald dX7_isTrueOf_5 (rw_g5 hA) (nI_in hv (by decide)) (w := ca) (by rw [nI_clamp (by omega)]; exact hb) ?_
  refine ax_astore_n dX7_isTrueOf_6 (by decide) ?_
  refine ax_sub (lv' := [(0, .ref (A.1 0)), (1, .int (nI v)), (2, .int (nI pr)), (3, .ref ca)]) (fun _ z => z) ?_
  refine ax_aload_n dX7_isTrueOf_7 rfl ?_
  refine ax_iconst (v := 0) dX7_isTrueOf_8 (by decide) ?_
  refine ax_ialdv (x := (nI (100 + c))) dX7_isTrueOf_9 (hca _) (fun z => by rcases z with z | z; exact absurd z (by decide); exact absurd z (by show ¬ N ≤ 0; omega)) (hf) ?_
  refine ax_bipush (v := 100) dX7_isTrueOf_10 (by decide) ?_
  refine ax_isub dX7_isTrueOf_12 ?_
  refine ax_top (y := (nI c)) (by rw [show (100 : Int32) = nI 100 by decide, pk_sub (by omega), Nat.add_sub_cancel_left]) ?_
  refine ax_istore dX7_isTrueOf_13 (by decide) ?_
  refine ax_sub (lv' := [(0, .ref (A.1 0)), (1, .int (nI v)), (2, .int (nI pr)), (3, .ref ca), (4, .int (nI c))]) (fun _ z => z) ?_
  refine ax_iconst (v := 1) dX7_isTrueOf_15 (by decide) ?_
  refine ax_istore dX7_isTrueOf_16 (by decide) ?_
  refine ax_sub (lv' := [(0, .ref (A.1 0)), (1, .int (nI v)), (2, .int (nI pr)), (3, .ref ca), (4, .int (nI c)), (5, .int 1)]) (fun _ z => z) ?_
  refine ax_bipush (v := 8) dX7_isTrueOf_18 (by decide) ?_
  refine ax_istore dX7_isTrueOf_20 (by decide) ?_
  refine ax_sub (lv' := [(0, .ref (A.1 0)), (1, .int (nI v)), (2, .int (nI pr)), (3, .ref ca), (4, .int (nI c)), (5, .int 1), (6, .int 8)]) (fun _ z => z) ?_
  refine ax_iconst (v := 0) dX7_isTrueOf_22 (by decide) ?_
  refine ax_istore dX7_isTrueOf_23 (by decide) ?_
  refine ax_sub (lv' := [(0, .ref (A.1 0)), (1, .int (nI v)), (2, .int (nI pr)), (3, .ref ca), (4, .int (nI c)), (5, .int 1), (6, .int 8), (7, .int 0)]) (fun _ z => z) ?_
  refine ax_iconst (v := 0) dX7_isTrueOf_25 (by decide) ?_
  refine ax_istore dX7_isTrueOf_26 (by decide) ?_
  refine ax_sub (lv' := [(0, .ref (A.1 0)), (1, .int (nI v)), (2, .int (nI pr)), (3, .ref ca), (4, .int (nI c)), (5, .int 1), (6, .int 8), (7, .int 0), (8, .int 0)]) (fun _ z => z) ?_
  exact kk

theorem cd_pcs {g : sp_G} (hw : sp_wg g) {T : List sp_E} (hwT : sp_wT T) (hty : sp_ty g T) {v : Nat} {e : sp_E} (he : T[v]? = some e) : ∃ q, g.2.2.2[e.2.1]? = some q ∧ q.1 = e.1 ∧ e.2.2.length = sp_ar q ∧ rc_pcs g q 8 e.2.2 (e.2.2.map (sp_pc T)) ∧ sp_tyx g T q e.2.2 := by
  obtain ⟨q, q1, q2, q3, q4, q5⟩ := hty e (List.mem_of_getElem? he)
  refine ⟨q, q1, q2, q3, ⟨List.length_map _, fun j x P hj hP => ?_⟩, q4⟩
  rw [List.getElem?_map, hj] at hP
  have hP : sp_pc T x = P := by simpa using hP
  have := q4 j x hj
  cases x with
  | inl m =>
    have h5 := hw.2.1
    exact ⟨by have := this.2.2; omega, this.1, hP.symm⟩
  | inr p =>
    obtain ⟨w1, e', w2, w3, w4⟩ := this
    have hP : sp_cd T p.1 = P := hP
    obtain ⟨c1, c2, c3⟩ := cd_it hw hwT hty w2
    rw [← hP]
    refine ⟨w1, by rw [← w3]; exact c3, by rw [c1, w4]; rfl, cd_ent hw hwT hty _ _ _ w2 (Nat.lt_succ_self _)⟩
set_option maxHeartbeats 4000000 in
theorem r_trueOf (hA : rw_nd A) {g : sp_G} (hw : sp_wg g) (d : Nat) (hd : 43 ≤ d) (R : rw_S) (h : ax_H) (hg : rw_gr R g) {T : List sp_E} (hT : rw_T A R h T) (hwT : sp_wT T) (hty : sp_ty g T) {v pr : Nat} {e : sp_E} (he : T[v]? = some e) (hpr : pr ≤ 5) {Q : ax_P} (hQ : ∀ s', lk_fr R.1 s' → Q (.inl (some (.int (if sp_cond pr e.2.2 then 1 else 0)))) (rw_O A (s', R.2) h)) : AW G mX7_isTrueOf (d + 1) 0 0 Q 0 [(0, .ref (A.1 0)), (1, .int (nI v)), (2, .int (nI pr))] [] (rw_O A R h) 0 0 := by
  obtain ⟨q, q1, q2, q3, q4, q5⟩ := cd_pcs hw hwT hty he
  have hvl := (List.getElem?_eq_some_iff.mp he).1
  have hT1 := hwT.1
  obtain ⟨⟨b, b1, f, b2, b3⟩, -⟩ := hT.2.2 v e he
  have hc6 : e.2.1 < 6 := Nat.lt_of_lt_of_le (List.getElem?_eq_some_iff.mp q1).1 hw.2.2.2.1
  have hcd := sp_cd_eq hwT he
  have hlen := sp_cd_len hwT v e he
  obtain ⟨w1, w2, w3, w4, w5, w6, -⟩ := hwT.2 v e he
  have hl40 : (sp_cd T v).length ≤ 40 := by unfold sp_sz at hlen; omega
  have hca : ∀ s, rw_O A (s, R.2) h b = some (.inl (0, (sp_cd T v).length, .inl f)) := fun s => rw_rd b2
  have hrc : rw_cd (sp_cd T v) (sp_cd T v).length f := ⟨Nat.le_refl _, by omega, b3⟩
  have hent := cd_ent hw hwT hty _ v e he (Nat.lt_succ_self v)
  have ha3 := sp_ar_le q
  have hht : ∀ n ∈ sp_hts e.2.2, n ≤ 8 := fun n hn => by
    have h1 := rf_max_ge hn
    omega
  have hht1 : ∀ p, Sum.inr p ∈ e.2.2 → p.2.2.1 ≤ 8 := fun p hp => by
    obtain ⟨e', z1, z2, z3, z4⟩ := sp_part_lt hwT he hp
    rw [z3]
    obtain ⟨y1, y2, y3, y4, -⟩ := hwT.2 _ _ z2
    show 1 + sp_max (sp_hts e'.2.2) ≤ 8
    omega
  refine tf_beg hA d R.1 R.2 h hca (by omega) b1 (by rw [hcd]; simp) (b3 0 _ (by rw [hcd]; rfl)) hc6 ?_
  have fin : ∀ (s1 : Nat → Int32) (kv : Int32), lk_fr R.1 s1 → AW G mX7_isTrueOf (d + 1) 0 0 Q 118 [(0, .ref (A.1 0)), (1, .int (nI v)), (2, .int (nI pr)), (3, .ref b), (4, .int (nI e.2.1)), (5, .int (nI (1 + ((e.2.2.map (sp_pc T)).flatten).length))), (6, .int (nI (min 8 (lk_lo e.2.2)))), (7, .int (nI (sp_max (sp_hts e.2.2)))), (8, .int kv)] [] (rw_O A (s1, R.2) h) 0 0 := by
    intro s1 kv fr
    have hmm := sp_min_le_max (sp_hts e.2.2)
    have hmx : sp_max (sp_hts e.2.2) ≤ 8 := sp_max_le hht
    obtain ⟨d, rfl⟩ : ∃ k, d = k + 1 := ⟨d - 1, by omega⟩
    refine tf_z hA (d + 1) s1 R.2 h hca (mn := sp_min (sp_hts e.2.2)) (df := sp_max (sp_hts e.2.2) - sp_min (sp_hts e.2.2)) (b := sp_cond pr e.2.2) ?_ (pk_sub hmm) ?_ (hQ s1 fr)
    · unfold lk_lo
      by_cases hh0 : sp_hts e.2.2 = []
      · rw [if_pos hh0, hh0]; decide
      · rw [if_neg hh0]
        have hne := hht _ (sp_min_mem hh0)
        rw [show min 8 (sp_min (sp_hts e.2.2)) = sp_min (sp_hts e.2.2) by omega, if_neg (il_nlt _ _ hmm rfl rfl (by omega))]
    · exact r_isTrue hA hw (s1, R.2) (lk_fr_g fr hg) h hrc (hca s1) (a0 := 0) (rest := []) q1 q3 q4 (by rw [List.drop_zero, hcd, List.append_nil]) (by rw [hcd, List.length_cons]; omega) rfl (fun n hn => by have := hht n hn; omega) hpr d (by omega)
  have loop : ∀ (i k : Nat) (s1 : Nat → Int32), k + i = e.2.2.length → lk_fr R.1 s1 → AW G mX7_isTrueOf (d + 1) 0 0 Q 28 [(0, .ref (A.1 0)), (1, .int (nI v)), (2, .int (nI pr)), (3, .ref b), (4, .int (nI e.2.1)), (5, .int (nI (1 + (((e.2.2.take k).map (sp_pc T)).flatten).length))), (6, .int (nI (min 8 (lk_lo (e.2.2.take k))))), (7, .int (nI (sp_max (sp_hts (e.2.2.take k))))), (8, .int (nI k))] [] (rw_O A (s1, R.2) h) 0 0 := by
    intro i
    induction i with
    | zero =>
      intro k s1 hk fr
      have hk : k = e.2.2.length := by omega
      subst hk
      rw [List.take_length]
      by_cases hk3 : e.2.2.length < 3
      · exact tf_x10 hA d s1 R.2 h hca hc6 hk3 (by rw [(hg.2.2.2.2 _ q q1).2.1 _ hk3, sp_ar_10 q3.symm hk3]; decide) (fin s1 _ fr)
      · have hk3 : e.2.2.length = 3 := by omega
        rw [hk3]
        exact tf_x3 hA d s1 R.2 h hca (fin s1 _ fr)
    | succ i ih =>
      intro k s1 hk fr
      have hkl : k < e.2.2.length := by omega
      have hpar := (hg.2.2.2.2 _ q q1).2.1 k (by omega)
      have hx := q5 k e.2.2[k] (List.getElem?_eq_getElem hkl)
      have htk : (e.2.2.take (k + 1)) = e.2.2.take k ++ [e.2.2[k]] := List.take_succ_eq_append_getElem hkl
      cases hxk : e.2.2[k] with
      | inl m =>
        rw [hxk] at hx htk
        have hnx := ih (k + 1) s1 (by omega) fr
        have hlo2 : lk_lo (e.2.2.take k ++ [.inl m]) = lk_lo (e.2.2.take k) := by unfold lk_lo; rw [lk_num.1]
        rw [htk, List.map_append, List.flatten_append, List.length_append, hlo2, lk_num.1] at hnx
        refine tf_int hA d s1 R.2 h hca hc6 (by omega) (by rw [hpar, hx.1]; decide) ?_
        exact hnx
      | inr p =>
        rw [hxk] at hx htk
        obtain ⟨p4, e', z1, z2, z3⟩ := hx
        have hpm : Sum.inr p ∈ e.2.2 := by rw [← hxk]; exact List.getElem_mem hkl
        have hp8 := hht1 p hpm
        have hsplit : (e.2.2.map (sp_pc T)).flatten = ((e.2.2.take k).map (sp_pc T)).flatten ++ (sp_cd T p.1 ++ ((e.2.2.drop (k + 1)).map (sp_pc T)).flatten) := by
          have : e.2.2 = e.2.2.take k ++ (Sum.inr p :: e.2.2.drop (k + 1)) := by
            rw [← hxk, ← List.drop_eq_getElem_cons hkl, List.take_append_drop]
          rw [this, List.map_append, List.flatten_append, List.map_cons, List.flatten_cons, ← this]
          rfl
        have hdr : (sp_cd T v).drop (1 + (((e.2.2.take k).map (sp_pc T)).flatten).length) = sp_cd T p.1 ++ ((e.2.2.drop (k + 1)).map (sp_pc T)).flatten := by
          rw [← List.drop_drop, hcd, List.drop_one, List.tail_cons, hsplit, List.drop_left']
          rfl
        have hpl := (List.getElem?_eq_some_iff.mp z1).1
        have hsz8 : sp_sz e' ≤ 8 := (hwT.2 _ _ z1).2.2.1
        have hlk2 := lk_cd hwT hty 41 p.1 e' z1 (by omega) (((e.2.2.drop (k + 1)).map (sp_pc T)).flatten)
        have hll : (sp_cd T v).length = 1 + (((e.2.2.take k).map (sp_pc T)).flatten).length + (sp_cd T p.1).length + (((e.2.2.drop (k + 1)).map (sp_pc T)).flatten).length := by
          rw [hcd, List.length_cons, hsplit, List.length_append, List.length_append]; omega
        have hpht : p.2.2.1 = 1 + sp_max (sp_hts e'.2.2) := by rw [z3]; rfl
        refine tf_part hA d s1 R.2 h hca (u := sp_par q k) (p2 := 1 + (((e.2.2.take k).map (sp_pc T)).flatten).length + (sp_cd T p.1).length) (t2 := p.2.2.1) (P1 := fun s' => lk_fr s1 s') hc6 (by omega) p4 (by omega) ?_ hp8 (by rw [hpar]; exact sp_pI_9 (by omega)) ?_ (fun s2 fr2 => ?_)
        · have : sp_max (sp_hts (e.2.2.take k)) ≤ sp_max (sp_hts e.2.2) := by
            have h1 := rf_max_app (sp_hts (e.2.2.take k)) (sp_hts (e.2.2.drop k))
            rw [← sp_hts_app, List.take_append_drop] at h1
            exact h1
          have := sp_max_le hht
          omega
        · refine ax_mono (r_look hA hw R.2 h hrc hent hca 41 (sp_par q k) (1 + (((e.2.2.take k).map (sp_pc T)).flatten).length) s1 (by rw [hdr, List.length_append]; omega) (by omega) (lk_fr_g fr hg) p4 d (by omega)) ?_
          rintro r h1 ⟨s', e1, e2, (⟨e3, e4⟩ | ⟨p', e3, e4, e5, e6⟩)⟩
          · rw [hdr, ← z2, hlk2] at e4; cases e4
          · rw [hdr, ← z2, hlk2] at e4
            cases e4
            refine ⟨s', e1, ?_, ?_, e2⟩
            · rw [e3]
              show Sum.inl (some (Value.int (nI ((sp_cd T v).length - (((e.2.2.drop (k + 1)).map (sp_pc T)).flatten).length)))) = _
              rw [show (sp_cd T v).length - (((e.2.2.drop (k + 1)).map (sp_pc T)).flatten).length = 1 + (((e.2.2.take k).map (sp_pc T)).flatten).length + (sp_cd T p.1).length by omega]
            · rw [hpht]; exact e6
        · have hnx := ih (k + 1) s2 (by omega) (lk_fr_tr fr fr2)
          rw [htk, List.map_append, List.flatten_append, List.length_append, lk_lo_s _ _ (by omega), lk_mx_s, ← Nat.min_assoc, ← Nat.add_assoc] at hnx
          have e9 : ([Sum.inr p].map (sp_pc T)).flatten = sp_cd T p.1 := by
            show sp_cd T p.1 ++ [] = _
            rw [List.append_nil]
          rw [e9] at hnx
          exact hnx
  have := loop e.2.2.length 0 R.1 (by omega) (lk_fr_rfl _)
  rw [List.take_zero] at this
  exact this
end RP3
