/-! ===== the reference: conditions ===== -/
def it_b (I : List Nat) : Int32 := if I = [] then -1 else nI (I.getLastD 0)
def it_l (I : List Nat) : Nat := I.foldl min 100
def it_f (L : List Nat) : List Nat := L.filter (fun a => decide (a < 100))
theorem it_b_s (I : List Nat) (a : Nat) : it_b (I ++ [a]) = nI a := by
  unfold it_b
  rw [if_neg (by simp)]
  congr 1
  simp [List.getLastD_eq_getLast?]
theorem it_a_s {I : List Nat} {a : Nat} (ha : a ≤ 5) (hI : ∀ x ∈ I, x ≤ 5) : sp_asc (I ++ [a]) = (sp_asc I && decide (it_b I < nI a)) := by
  by_cases h : I = []
  · subst h
    show true = (true && decide ((-1 : Int32) < nI a))
    rw [decide_eq_true (sp_m1lt a ha)]; rfl
  · rw [sp_asc_app h (by simp)]
    have hm := hI _ (sp_last_mem h)
    unfold it_b
    rw [if_neg h]
    show (sp_asc I && (decide (I.getLastD 0 < a) && true)) = _
    rw [Bool.and_true]
    congr 1
    exact decide_eq_decide.mpr (nI_ltI (by omega) (by omega)).symm
theorem it_l_s (I : List Nat) (a : Nat) : it_l (I ++ [a]) = min (it_l I) a := by
  unfold it_l
  rw [List.foldl_append]; rfl
theorem it_l_le (I : List Nat) : it_l I ≤ 100 := by
  unfold it_l
  have : ∀ (I : List Nat) (m : Nat), m ≤ 100 → I.foldl min m ≤ 100 := by
    intro I
    induction I with
    | nil => intro m h; exact h
    | cons a r ih => intro m h; exact ih (min m a) (by omega)
  exact this I 100 (by omega)
theorem it_l_min {I : List Nat} (hI : ∀ x ∈ I, x ≤ 5) (hn : I ≠ []) : it_l I = sp_min I := by
  have : ∀ (I : List Nat) (m : Nat), I ≠ [] → I.foldl min m = min m (sp_min I) := by
    intro I
    induction I with
    | nil => intro m h; exact absurd rfl h
    | cons a r ih =>
      intro m _
      by_cases hr : r = []
      · subst hr; rfl
      · rw [List.foldl_cons, ih _ hr, sp_min_cons a hr]; omega
  unfold it_l
  rw [this I 100 hn]
  have := hI _ (sp_min_mem hn)
  omega
section RTRUE
variable {G : ax_G} {A : rw_Ad}

set_option maxRecDepth 100000 in
set_option maxHeartbeats 4000000 in
theorem it_skip (hA : rw_nd A) (d : Nat) (R : rw_S) (h : ax_H) {ca N : Nat} {f : Nat → Int32} (hca : rw_O A R h ca = some (.inl (0, N, .inl f))) {cd a0 b0 df c sm le k a : Nat} {b fl : Int32} (hk : k < b0) (hb0 : b0 ≤ N) (hN : N ≤ 100) (hf : f k = nI a) (ha : 100 ≤ a) (ha2 : a ≤ 105) {Q : ax_P} (kk : AW G mX7_isTrue (d + 1) 0 0 Q 52 [(0, .ref (A.1 0)), (1, .int (nI cd)), (2, .ref ca), (3, .int (nI a0)), (4, .int (nI b0)), (5, .int (nI df)), (6, .int (nI c)), (7, .int (-1)), (8, .int b), (9, .int (nI sm)), (10, .int fl), (11, .int (nI le)), (12, .int (nI (k + 1)))] [] (rw_O A R h) 0 0) : AW G mX7_isTrue (d + 1) 0 0 Q 52 [(0, .ref (A.1 0)), (1, .int (nI cd)), (2, .ref ca), (3, .int (nI a0)), (4, .int (nI b0)), (5, .int (nI df)), (6, .int (nI c)), (7, .int (-1)), (8, .int b), (9, .int (nI sm)), (10, .int fl), (11, .int (nI le)), (12, .int (nI k))] [] (rw_O A R h) 0 0 := by
  have hkN : k < N := by omega
  refine ax_iload dX7_isTrue_52 rfl ?_
  refine ax_iload dX7_isTrue_54 rfl ?_
  refine ax_icmp_ge (tgt := 124) dX7_isTrue_56 (by decide) (fun z => absurd z (il_nle b0 k hk)) (fun _ => ?_)
  refine ax_aload_n dX7_isTrue_59 rfl ?_
  refine ax_iload dX7_isTrue_60 rfl ?_
  refine ax_ialdv (x := (nI a)) dX7_isTrue_62 hca (nI_in hkN (by omega)) (by rw [nI_clamp (by omega)]; exact hf) ?_
  refine ax_bipush (v := 100) dX7_isTrue_63 (by decide) ?_
  refine ax_icmp_lt (tgt := 71) dX7_isTrue_65 (by decide) (fun z => absurd z (il_nlt a 100 ha)) (fun _ => ?_)
  refine ax_goto (tgt := 118) dX7_isTrue_68 (by decide) ?_
  refine ax_iinc (v := (nI (k + 1))) dX7_isTrue_118 rfl (nI_1 k) (by decide) ?_
  refine ax_sub (lv' := [(0, .ref (A.1 0)), (1, .int (nI cd)), (2, .ref ca), (3, .int (nI a0)), (4, .int (nI b0)), (5, .int (nI df)), (6, .int (nI c)), (7, .int (-1)), (8, .int b), (9, .int (nI sm)), (10, .int fl), (11, .int (nI le)), (12, .int (nI (k + 1)))]) (fun _ z => z) ?_
  refine ax_goto (tgt := 52) dX7_isTrue_121 (by decide) ?_
  exact kk
theorem it_i0 (hA : rw_nd A) (d : Nat) (R : rw_S) (h : ax_H) {ca N : Nat} {f : Nat → Int32} (hca : rw_O A R h ca = some (.inl (0, N, .inl f))) {cd a0 b0 df c sm le k a : Nat} {b : Int32} (hk : k < b0) (hb0 : b0 ≤ N) (hN : N ≤ 100) (hf : f k = nI a) (ha : a ≤ 5) (hle : le ≤ 100) {Q : ax_P} (kk : AW G mX7_isTrue (d + 1) 0 0 Q 52 [(0, .ref (A.1 0)), (1, .int (nI cd)), (2, .ref ca), (3, .int (nI a0)), (4, .int (nI b0)), (5, .int (nI df)), (6, .int (nI c)), (7, .int (-1)), (8, .int (nI a)), (9, .int (nI (sm + a))), (10, .int 0), (11, .int (nI (min le a))), (12, .int (nI (k + 1)))] [] (rw_O A R h) 0 0) : AW G mX7_isTrue (d + 1) 0 0 Q 52 [(0, .ref (A.1 0)), (1, .int (nI cd)), (2, .ref ca), (3, .int (nI a0)), (4, .int (nI b0)), (5, .int (nI df)), (6, .int (nI c)), (7, .int (-1)), (8, .int b), (9, .int (nI sm)), (10, .int 0), (11, .int (nI le)), (12, .int (nI k))] [] (rw_O A R h) 0 0 := by
  have hkN : k < N := by omega
  have hmn : (if nI a < nI le then nI a else nI le) = nI (min le a) := by
    by_cases z : a < le
    · rw [if_pos (il_lt a le z), show min le a = a by omega]
    · rw [if_neg (il_nlt a le (by omega)), show min le a = le by omega]
  refine ax_iload dX7_isTrue_52 rfl ?_
  refine ax_iload dX7_isTrue_54 rfl ?_
  refine ax_icmp_ge (tgt := 124) dX7_isTrue_56 (by decide) (fun z => absurd z (il_nle b0 k hk)) (fun _ => ?_)
  refine ax_aload_n dX7_isTrue_59 rfl ?_
  refine ax_iload dX7_isTrue_60 rfl ?_
  refine ax_ialdv (x := (nI a)) dX7_isTrue_62 hca (nI_in hkN (by omega)) (by rw [nI_clamp (by omega)]; exact hf) ?_
  refine ax_bipush (v := 100) dX7_isTrue_63 (by decide) ?_
  refine ax_icmp_lt (tgt := 71) dX7_isTrue_65 (by decide) (fun _ => ?_) (fun z => absurd (il_lt a 100 (by omega)) z)
  refine ax_iload dX7_isTrue_71 rfl ?_
  refine ax_if_eq (tgt := 89) dX7_isTrue_73 (by decide) (fun _ => ?_) (fun z => absurd rfl z)
  refine ax_iconst (v := 0) dX7_isTrue_89 (by decide) ?_
  refine ax_istore dX7_isTrue_90 (by decide) ?_
  refine ax_sub (lv' := [(0, .ref (A.1 0)), (1, .int (nI cd)), (2, .ref ca), (3, .int (nI a0)), (4, .int (nI b0)), (5, .int (nI df)), (6, .int (nI c)), (7, .int (-1)), (8, .int b), (9, .int (nI sm)), (10, .int 0), (11, .int (nI le)), (12, .int (nI k))]) (fun _ z => z) ?_
  refine ax_aload_n dX7_isTrue_92 rfl ?_
  refine ax_iload dX7_isTrue_93 rfl ?_
  refine ax_ialdv (x := (nI a)) dX7_isTrue_95 hca (nI_in hkN (by omega)) (by rw [nI_clamp (by omega)]; exact hf) ?_
  refine ax_istore dX7_isTrue_96 (by decide) ?_
  refine ax_sub (lv' := [(0, .ref (A.1 0)), (1, .int (nI cd)), (2, .ref ca), (3, .int (nI a0)), (4, .int (nI b0)), (5, .int (nI df)), (6, .int (nI c)), (7, .int (-1)), (8, .int (nI a)), (9, .int (nI sm)), (10, .int 0), (11, .int (nI le)), (12, .int (nI k))]) (fun _ z => z) ?_
  refine ax_iload dX7_isTrue_98 rfl ?_
  refine ax_aload_n dX7_isTrue_100 rfl ?_
  refine ax_iload dX7_isTrue_101 rfl ?_
  refine ax_ialdv (x := (nI a)) dX7_isTrue_103 hca (nI_in hkN (by omega)) (by rw [nI_clamp (by omega)]; exact hf) ?_
  refine ax_iadd dX7_isTrue_104 ?_
  refine ax_top (y := (nI (sm + a))) (nI_add _ _) ?_
  refine ax_istore dX7_isTrue_105 (by decide) ?_
  refine ax_sub (lv' := [(0, .ref (A.1 0)), (1, .int (nI cd)), (2, .ref ca), (3, .int (nI a0)), (4, .int (nI b0)), (5, .int (nI df)), (6, .int (nI c)), (7, .int (-1)), (8, .int (nI a)), (9, .int (nI (sm + a))), (10, .int 0), (11, .int (nI le)), (12, .int (nI k))]) (fun _ z => z) ?_
  refine ax_iload dX7_isTrue_107 rfl ?_
  refine ax_aload_n dX7_isTrue_109 rfl ?_
  refine ax_iload dX7_isTrue_110 rfl ?_
  refine ax_ialdv (x := (nI a)) dX7_isTrue_112 hca (nI_in hkN (by omega)) (by rw [nI_clamp (by omega)]; exact hf) ?_
  refine ax_mmin dX7_isTrue_113 mlX7_93 ax_mS_min ax_iMath ax_mC_min (Nat.le_of_ble_eq_true rfl) ?_
  refine ax_top (y := (nI (min le a))) (hmn) ?_
  refine ax_istore dX7_isTrue_116 (by decide) ?_
  refine ax_sub (lv' := [(0, .ref (A.1 0)), (1, .int (nI cd)), (2, .ref ca), (3, .int (nI a0)), (4, .int (nI b0)), (5, .int (nI df)), (6, .int (nI c)), (7, .int (-1)), (8, .int (nI a)), (9, .int (nI (sm + a))), (10, .int 0), (11, .int (nI (min le a))), (12, .int (nI k))]) (fun _ z => z) ?_
  refine ax_iinc (v := (nI (k + 1))) dX7_isTrue_118 rfl (nI_1 k) (by decide) ?_
  refine ax_sub (lv' := [(0, .ref (A.1 0)), (1, .int (nI cd)), (2, .ref ca), (3, .int (nI a0)), (4, .int (nI b0)), (5, .int (nI df)), (6, .int (nI c)), (7, .int (-1)), (8, .int (nI a)), (9, .int (nI (sm + a))), (10, .int 0), (11, .int (nI (min le a))), (12, .int (nI (k + 1)))]) (fun _ z => z) ?_
  refine ax_goto (tgt := 52) dX7_isTrue_121 (by decide) ?_
  exact kk
theorem it_i1 (hA : rw_nd A) (d : Nat) (R : rw_S) (h : ax_H) {ca N : Nat} {f : Nat → Int32} (hca : rw_O A R h ca = some (.inl (0, N, .inl f))) {cd a0 b0 df c sm le k a : Nat} {b : Int32} (hk : k < b0) (hb0 : b0 ≤ N) (hN : N ≤ 100) (hf : f k = nI a) (ha : a ≤ 5) (hle : le ≤ 100) (hb : b < nI a) {Q : ax_P} (kk : AW G mX7_isTrue (d + 1) 0 0 Q 52 [(0, .ref (A.1 0)), (1, .int (nI cd)), (2, .ref ca), (3, .int (nI a0)), (4, .int (nI b0)), (5, .int (nI df)), (6, .int (nI c)), (7, .int (-1)), (8, .int (nI a)), (9, .int (nI (sm + a))), (10, .int 1), (11, .int (nI (min le a))), (12, .int (nI (k + 1)))] [] (rw_O A R h) 0 0) : AW G mX7_isTrue (d + 1) 0 0 Q 52 [(0, .ref (A.1 0)), (1, .int (nI cd)), (2, .ref ca), (3, .int (nI a0)), (4, .int (nI b0)), (5, .int (nI df)), (6, .int (nI c)), (7, .int (-1)), (8, .int b), (9, .int (nI sm)), (10, .int 1), (11, .int (nI le)), (12, .int (nI k))] [] (rw_O A R h) 0 0 := by
  have hkN : k < N := by omega
  have hmn : (if nI a < nI le then nI a else nI le) = nI (min le a) := by
    by_cases z : a < le
    · rw [if_pos (il_lt a le z), show min le a = a by omega]
    · rw [if_neg (il_nlt a le (by omega)), show min le a = le by omega]
  refine ax_iload dX7_isTrue_52 rfl ?_
  refine ax_iload dX7_isTrue_54 rfl ?_
  refine ax_icmp_ge (tgt := 124) dX7_isTrue_56 (by decide) (fun z => absurd z (il_nle b0 k hk)) (fun _ => ?_)
  refine ax_aload_n dX7_isTrue_59 rfl ?_
  refine ax_iload dX7_isTrue_60 rfl ?_
  refine ax_ialdv (x := (nI a)) dX7_isTrue_62 hca (nI_in hkN (by omega)) (by rw [nI_clamp (by omega)]; exact hf) ?_
  refine ax_bipush (v := 100) dX7_isTrue_63 (by decide) ?_
  refine ax_icmp_lt (tgt := 71) dX7_isTrue_65 (by decide) (fun _ => ?_) (fun z => absurd (il_lt a 100 (by omega)) z)
  refine ax_iload dX7_isTrue_71 rfl ?_
  refine ax_if_eq (tgt := 89) dX7_isTrue_73 (by decide) (fun z => absurd z (by decide)) (fun _ => ?_)
  refine ax_aload_n dX7_isTrue_76 rfl ?_
  refine ax_iload dX7_isTrue_77 rfl ?_
  refine ax_ialdv (x := (nI a)) dX7_isTrue_79 hca (nI_in hkN (by omega)) (by rw [nI_clamp (by omega)]; exact hf) ?_
  refine ax_iload dX7_isTrue_80 rfl ?_
  refine ax_icmp_le (tgt := 89) dX7_isTrue_82 (by decide) (fun z => absurd z (i_lt_not hb)) (fun _ => ?_)
  refine ax_iconst (v := 1) dX7_isTrue_85 (by decide) ?_
  refine ax_goto (tgt := 90) dX7_isTrue_86 (by decide) ?_
  refine ax_istore dX7_isTrue_90 (by decide) ?_
  refine ax_sub (lv' := [(0, .ref (A.1 0)), (1, .int (nI cd)), (2, .ref ca), (3, .int (nI a0)), (4, .int (nI b0)), (5, .int (nI df)), (6, .int (nI c)), (7, .int (-1)), (8, .int b), (9, .int (nI sm)), (10, .int 1), (11, .int (nI le)), (12, .int (nI k))]) (fun _ z => z) ?_
  refine ax_aload_n dX7_isTrue_92 rfl ?_
  refine ax_iload dX7_isTrue_93 rfl ?_
  refine ax_ialdv (x := (nI a)) dX7_isTrue_95 hca (nI_in hkN (by omega)) (by rw [nI_clamp (by omega)]; exact hf) ?_
  refine ax_istore dX7_isTrue_96 (by decide) ?_
  refine ax_sub (lv' := [(0, .ref (A.1 0)), (1, .int (nI cd)), (2, .ref ca), (3, .int (nI a0)), (4, .int (nI b0)), (5, .int (nI df)), (6, .int (nI c)), (7, .int (-1)), (8, .int (nI a)), (9, .int (nI sm)), (10, .int 1), (11, .int (nI le)), (12, .int (nI k))]) (fun _ z => z) ?_
  refine ax_iload dX7_isTrue_98 rfl ?_
  refine ax_aload_n dX7_isTrue_100 rfl ?_
  refine ax_iload dX7_isTrue_101 rfl ?_
  refine ax_ialdv (x := (nI a)) dX7_isTrue_103 hca (nI_in hkN (by omega)) (by rw [nI_clamp (by omega)]; exact hf) ?_
  refine ax_iadd dX7_isTrue_104 ?_
  refine ax_top (y := (nI (sm + a))) (nI_add _ _) ?_
  refine ax_istore dX7_isTrue_105 (by decide) ?_
  refine ax_sub (lv' := [(0, .ref (A.1 0)), (1, .int (nI cd)), (2, .ref ca), (3, .int (nI a0)), (4, .int (nI b0)), (5, .int (nI df)), (6, .int (nI c)), (7, .int (-1)), (8, .int (nI a)), (9, .int (nI (sm + a))), (10, .int 1), (11, .int (nI le)), (12, .int (nI k))]) (fun _ z => z) ?_
  refine ax_iload dX7_isTrue_107 rfl ?_
  refine ax_aload_n dX7_isTrue_109 rfl ?_
  refine ax_iload dX7_isTrue_110 rfl ?_
  refine ax_ialdv (x := (nI a)) dX7_isTrue_112 hca (nI_in hkN (by omega)) (by rw [nI_clamp (by omega)]; exact hf) ?_
  refine ax_mmin dX7_isTrue_113 mlX7_93 ax_mS_min ax_iMath ax_mC_min (Nat.le_of_ble_eq_true rfl) ?_
  refine ax_top (y := (nI (min le a))) (hmn) ?_
  refine ax_istore dX7_isTrue_116 (by decide) ?_
  refine ax_sub (lv' := [(0, .ref (A.1 0)), (1, .int (nI cd)), (2, .ref ca), (3, .int (nI a0)), (4, .int (nI b0)), (5, .int (nI df)), (6, .int (nI c)), (7, .int (-1)), (8, .int (nI a)), (9, .int (nI (sm + a))), (10, .int 1), (11, .int (nI (min le a))), (12, .int (nI k))]) (fun _ z => z) ?_
  refine ax_iinc (v := (nI (k + 1))) dX7_isTrue_118 rfl (nI_1 k) (by decide) ?_
  refine ax_sub (lv' := [(0, .ref (A.1 0)), (1, .int (nI cd)), (2, .ref ca), (3, .int (nI a0)), (4, .int (nI b0)), (5, .int (nI df)), (6, .int (nI c)), (7, .int (-1)), (8, .int (nI a)), (9, .int (nI (sm + a))), (10, .int 1), (11, .int (nI (min le a))), (12, .int (nI (k + 1)))]) (fun _ z => z) ?_
  refine ax_goto (tgt := 52) dX7_isTrue_121 (by decide) ?_
  exact kk
theorem it_i2 (hA : rw_nd A) (d : Nat) (R : rw_S) (h : ax_H) {ca N : Nat} {f : Nat → Int32} (hca : rw_O A R h ca = some (.inl (0, N, .inl f))) {cd a0 b0 df c sm le k a : Nat} {b : Int32} (hk : k < b0) (hb0 : b0 ≤ N) (hN : N ≤ 100) (hf : f k = nI a) (ha : a ≤ 5) (hle : le ≤ 100) (hb : ¬ b < nI a) {Q : ax_P} (kk : AW G mX7_isTrue (d + 1) 0 0 Q 52 [(0, .ref (A.1 0)), (1, .int (nI cd)), (2, .ref ca), (3, .int (nI a0)), (4, .int (nI b0)), (5, .int (nI df)), (6, .int (nI c)), (7, .int (-1)), (8, .int (nI a)), (9, .int (nI (sm + a))), (10, .int 0), (11, .int (nI (min le a))), (12, .int (nI (k + 1)))] [] (rw_O A R h) 0 0) : AW G mX7_isTrue (d + 1) 0 0 Q 52 [(0, .ref (A.1 0)), (1, .int (nI cd)), (2, .ref ca), (3, .int (nI a0)), (4, .int (nI b0)), (5, .int (nI df)), (6, .int (nI c)), (7, .int (-1)), (8, .int b), (9, .int (nI sm)), (10, .int 1), (11, .int (nI le)), (12, .int (nI k))] [] (rw_O A R h) 0 0 := by
  have hkN : k < N := by omega
  have hmn : (if nI a < nI le then nI a else nI le) = nI (min le a) := by
    by_cases z : a < le
    · rw [if_pos (il_lt a le z), show min le a = a by omega]
    · rw [if_neg (il_nlt a le (by omega)), show min le a = le by omega]
  refine ax_iload dX7_isTrue_52 rfl ?_
  refine ax_iload dX7_isTrue_54 rfl ?_
  refine ax_icmp_ge (tgt := 124) dX7_isTrue_56 (by decide) (fun z => absurd z (il_nle b0 k hk)) (fun _ => ?_)
  refine ax_aload_n dX7_isTrue_59 rfl ?_
  refine ax_iload dX7_isTrue_60 rfl ?_
  refine ax_ialdv (x := (nI a)) dX7_isTrue_62 hca (nI_in hkN (by omega)) (by rw [nI_clamp (by omega)]; exact hf) ?_
  refine ax_bipush (v := 100) dX7_isTrue_63 (by decide) ?_
  refine ax_icmp_lt (tgt := 71) dX7_isTrue_65 (by decide) (fun _ => ?_) (fun z => absurd (il_lt a 100 (by omega)) z)
  refine ax_iload dX7_isTrue_71 rfl ?_
  refine ax_if_eq (tgt := 89) dX7_isTrue_73 (by decide) (fun z => absurd z (by decide)) (fun _ => ?_)
  refine ax_aload_n dX7_isTrue_76 rfl ?_
  refine ax_iload dX7_isTrue_77 rfl ?_
  refine ax_ialdv (x := (nI a)) dX7_isTrue_79 hca (nI_in hkN (by omega)) (by rw [nI_clamp (by omega)]; exact hf) ?_
  refine ax_iload dX7_isTrue_80 rfl ?_
  refine ax_icmp_le (tgt := 89) dX7_isTrue_82 (by decide) (fun _ => ?_) (fun z => absurd (i_not_le hb) z)
  refine ax_iconst (v := 0) dX7_isTrue_89 (by decide) ?_
  refine ax_istore dX7_isTrue_90 (by decide) ?_
  refine ax_sub (lv' := [(0, .ref (A.1 0)), (1, .int (nI cd)), (2, .ref ca), (3, .int (nI a0)), (4, .int (nI b0)), (5, .int (nI df)), (6, .int (nI c)), (7, .int (-1)), (8, .int b), (9, .int (nI sm)), (10, .int 0), (11, .int (nI le)), (12, .int (nI k))]) (fun _ z => z) ?_
  refine ax_aload_n dX7_isTrue_92 rfl ?_
  refine ax_iload dX7_isTrue_93 rfl ?_
  refine ax_ialdv (x := (nI a)) dX7_isTrue_95 hca (nI_in hkN (by omega)) (by rw [nI_clamp (by omega)]; exact hf) ?_
  refine ax_istore dX7_isTrue_96 (by decide) ?_
  refine ax_sub (lv' := [(0, .ref (A.1 0)), (1, .int (nI cd)), (2, .ref ca), (3, .int (nI a0)), (4, .int (nI b0)), (5, .int (nI df)), (6, .int (nI c)), (7, .int (-1)), (8, .int (nI a)), (9, .int (nI sm)), (10, .int 0), (11, .int (nI le)), (12, .int (nI k))]) (fun _ z => z) ?_
  refine ax_iload dX7_isTrue_98 rfl ?_
  refine ax_aload_n dX7_isTrue_100 rfl ?_
  refine ax_iload dX7_isTrue_101 rfl ?_
  refine ax_ialdv (x := (nI a)) dX7_isTrue_103 hca (nI_in hkN (by omega)) (by rw [nI_clamp (by omega)]; exact hf) ?_
  refine ax_iadd dX7_isTrue_104 ?_
  refine ax_top (y := (nI (sm + a))) (nI_add _ _) ?_
  refine ax_istore dX7_isTrue_105 (by decide) ?_
  refine ax_sub (lv' := [(0, .ref (A.1 0)), (1, .int (nI cd)), (2, .ref ca), (3, .int (nI a0)), (4, .int (nI b0)), (5, .int (nI df)), (6, .int (nI c)), (7, .int (-1)), (8, .int (nI a)), (9, .int (nI (sm + a))), (10, .int 0), (11, .int (nI le)), (12, .int (nI k))]) (fun _ z => z) ?_
  refine ax_iload dX7_isTrue_107 rfl ?_
  refine ax_aload_n dX7_isTrue_109 rfl ?_
  refine ax_iload dX7_isTrue_110 rfl ?_
  refine ax_ialdv (x := (nI a)) dX7_isTrue_112 hca (nI_in hkN (by omega)) (by rw [nI_clamp (by omega)]; exact hf) ?_
  refine ax_mmin dX7_isTrue_113 mlX7_93 ax_mS_min ax_iMath ax_mC_min (Nat.le_of_ble_eq_true rfl) ?_
  refine ax_top (y := (nI (min le a))) (hmn) ?_
  refine ax_istore dX7_isTrue_116 (by decide) ?_
  refine ax_sub (lv' := [(0, .ref (A.1 0)), (1, .int (nI cd)), (2, .ref ca), (3, .int (nI a0)), (4, .int (nI b0)), (5, .int (nI df)), (6, .int (nI c)), (7, .int (-1)), (8, .int (nI a)), (9, .int (nI (sm + a))), (10, .int 0), (11, .int (nI (min le a))), (12, .int (nI k))]) (fun _ z => z) ?_
  refine ax_iinc (v := (nI (k + 1))) dX7_isTrue_118 rfl (nI_1 k) (by decide) ?_
  refine ax_sub (lv' := [(0, .ref (A.1 0)), (1, .int (nI cd)), (2, .ref ca), (3, .int (nI a0)), (4, .int (nI b0)), (5, .int (nI df)), (6, .int (nI c)), (7, .int (-1)), (8, .int (nI a)), (9, .int (nI (sm + a))), (10, .int 0), (11, .int (nI (min le a))), (12, .int (nI (k + 1)))]) (fun _ z => z) ?_
  refine ax_goto (tgt := 52) dX7_isTrue_121 (by decide) ?_
  exact kk

theorem it_loop (hA : rw_nd A) (d : Nat) (R : rw_S) (h : ax_H) {ca N : Nat} {f : Nat → Int32} (hca : rw_O A R h ca = some (.inl (0, N, .inl f))) {cd a0 b0 df c : Nat} {W : List Nat} (hb0 : b0 ≤ N) (hN : N ≤ 100) (hW : ∀ i a, W[i]? = some a → f (a0 + i) = nI a ∧ (a ≤ 5 ∨ (100 ≤ a ∧ a ≤ 105))) (hl : a0 + W.length = b0) {Q : ax_P} (kk : AW G mX7_isTrue (d + 1) 0 0 Q 52 [(0, .ref (A.1 0)), (1, .int (nI cd)), (2, .ref ca), (3, .int (nI a0)), (4, .int (nI b0)), (5, .int (nI df)), (6, .int (nI c)), (7, .int (-1)), (8, .int (it_b (it_f W))), (9, .int (nI (it_f W).sum)), (10, .int (if sp_asc (it_f W) then 1 else 0)), (11, .int (nI (it_l (it_f W)))), (12, .int (nI b0))] [] (rw_O A R h) 0 0) : ∀ (i j : Nat), j + i = W.length → AW G mX7_isTrue (d + 1) 0 0 Q 52 [(0, .ref (A.1 0)), (1, .int (nI cd)), (2, .ref ca), (3, .int (nI a0)), (4, .int (nI b0)), (5, .int (nI df)), (6, .int (nI c)), (7, .int (-1)), (8, .int (it_b (it_f (W.take j)))), (9, .int (nI (it_f (W.take j)).sum)), (10, .int (if sp_asc (it_f (W.take j)) then 1 else 0)), (11, .int (nI (it_l (it_f (W.take j))))), (12, .int (nI (a0 + j)))] [] (rw_O A R h) 0 0 := by
  intro i
  induction i with
  | zero =>
    intro j hj
    have hj : j = W.length := by omega
    subst hj
    rw [List.take_length, hl]
    exact kk
  | succ i ih =>
    intro j hj
    have hjl : j < W.length := by omega
    have hi := ih (j + 1) (by omega)
    obtain ⟨f1, f2⟩ := hW j W[j] (List.getElem?_eq_getElem hjl)
    rw [List.take_succ_eq_append_getElem hjl] at hi
    have hx : it_f (W.take j ++ [W[j]]) = it_f (W.take j) ++ it_f [W[j]] := List.filter_append _ _
    have hall : ∀ x ∈ it_f (W.take j), x ≤ 5 := by
      intro x hx
      obtain ⟨x1, x2⟩ := List.mem_filter.mp hx
      obtain ⟨k, hk⟩ := List.getElem?_of_mem (List.mem_of_mem_take x1)
      have := (hW k x hk).2
      have x2 := of_decide_eq_true x2
      omega
    have hle := it_l_le (it_f (W.take j))
    rw [hx] at hi
    rcases f2 with f2 | f2
    · have hs : it_f [W[j]] = [W[j]] := List.filter_cons_of_pos (by simp; omega)
      rw [hs, it_b_s, it_l_s, it_a_s f2 hall, List.sum_append, List.sum_singleton] at hi
      cases ha : sp_asc (it_f (W.take j)) with
      | false =>
        rw [ha] at hi
        exact it_i0 hA d R h hca (by omega) hb0 hN f1 f2 hle hi
      | true =>
        rw [ha] at hi
        by_cases hb : it_b (it_f (W.take j)) < nI W[j]
        · rw [decide_eq_true hb] at hi
          exact it_i1 hA d R h hca (by omega) hb0 hN f1 f2 hle hb hi
        · rw [decide_eq_false hb] at hi
          exact it_i2 hA d R h hca (by omega) hb0 hN f1 f2 hle hb hi
    · have hs : it_f [W[j]] = [] := List.filter_cons_of_neg (by simp; omega)
      rw [hs, List.append_nil] at hi
      exact it_skip hA d R h hca (by omega) hb0 hN f1 f2.1 f2.2 hi

set_option maxRecDepth 100000 in
set_option maxHeartbeats 4000000 in
theorem it_e1 (hA : rw_nd A) (d : Nat) (R : rw_S) (h : ax_H) {ca N : Nat} {f : Nat → Int32} (hca : rw_O A R h ca = some (.inl (0, N, .inl f))) {a0 b0 df c sm le : Nat} {b fl : Int32} (hb0 : b0 ≤ 100) (hfl : narrow .boolean (.int fl) = .int fl) {Q : ax_P} (hq : Q (.inl (some (.int fl))) (rw_O A R h)) : AW G mX7_isTrue (d + 1) 0 0 Q 52 [(0, .ref (A.1 0)), (1, .int (nI 1)), (2, .ref ca), (3, .int (nI a0)), (4, .int (nI b0)), (5, .int (nI df)), (6, .int (nI c)), (7, .int (-1)), (8, .int b), (9, .int (nI sm)), (10, .int fl), (11, .int (nI le)), (12, .int (nI b0))] [] (rw_O A R h) 0 0 := by
  refine ax_iload dX7_isTrue_52 rfl ?_
  refine ax_iload dX7_isTrue_54 rfl ?_
  refine ax_icmp_ge (tgt := 124) dX7_isTrue_56 (by decide) (fun _ => ?_) (fun z => absurd (il_le b0 b0 (Nat.le_refl _)) z)
  refine ax_iload_n dX7_isTrue_124 rfl ?_
  refine ax_iconst (v := 1) dX7_isTrue_125 (by decide) ?_
  refine ax_icmp_ne (tgt := 132) dX7_isTrue_126 (by decide) (fun z => absurd (by decide) z) (fun _ => ?_)
  refine ax_iload dX7_isTrue_129 rfl ?_
  exact ax_iret (st := []) dX7_isTrue_131 rfl hfl hq
theorem it_e5 (hA : rw_nd A) (d : Nat) (R : rw_S) (h : ax_H) {ca N : Nat} {f : Nat → Int32} (hca : rw_O A R h ca = some (.inl (0, N, .inl f))) {a0 b0 df c sm le : Nat} {b fl : Int32} (hb0 : b0 ≤ 100) (hsm : sm < 2 ^ 31) {Q : ax_P} (hq : Q (.inl (some (.int (if sm % 2 = 0 then 1 else 0)))) (rw_O A R h)) : AW G mX7_isTrue (d + 1) 0 0 Q 52 [(0, .ref (A.1 0)), (1, .int (nI 5)), (2, .ref ca), (3, .int (nI a0)), (4, .int (nI b0)), (5, .int (nI df)), (6, .int (nI c)), (7, .int (-1)), (8, .int b), (9, .int (nI sm)), (10, .int fl), (11, .int (nI le)), (12, .int (nI b0))] [] (rw_O A R h) 0 0 := by
  have hmod : nI sm - nI sm / 2 * 2 = nI (sm % 2) := by
    rw [show (2 : Int32) = nI 2 by decide, pk_div hsm (by decide) (by decide), pk_mul, pk_sub (by omega)]
    congr 1; omega
  by_cases c0 : sm % 2 = 0
  · rw [if_pos c0] at hq
    refine ax_iload dX7_isTrue_52 rfl ?_
    refine ax_iload dX7_isTrue_54 rfl ?_
    refine ax_icmp_ge (tgt := 124) dX7_isTrue_56 (by decide) (fun _ => ?_) (fun z => absurd (il_le b0 b0 (Nat.le_refl _)) z)
    refine ax_iload_n dX7_isTrue_124 rfl ?_
    refine ax_iconst (v := 1) dX7_isTrue_125 (by decide) ?_
    refine ax_icmp_ne (tgt := 132) dX7_isTrue_126 (by decide) (fun _ => ?_) (fun z => absurd z (by decide))
    refine ax_iload_n dX7_isTrue_132 rfl ?_
    refine ax_iconst (v := 5) dX7_isTrue_133 (by decide) ?_
    refine ax_icmp_ne (tgt := 150) dX7_isTrue_134 (by decide) (fun z => absurd (by decide) z) (fun _ => ?_)
    refine ax_iload dX7_isTrue_137 rfl ?_
    refine ax_iconst (v := 2) dX7_isTrue_139 (by decide) ?_
    refine ax_irem dX7_isTrue_140 (by decide) ?_
    refine ax_top (y := (nI (sm % 2))) (hmod) ?_
    refine ax_if_ne (tgt := 148) dX7_isTrue_141 (by decide) (fun z => absurd (by rw [c0]; decide) z) (fun _ => ?_)
    refine ax_iconst (v := 1) dX7_isTrue_144 (by decide) ?_
    refine ax_goto (tgt := 149) dX7_isTrue_145 (by decide) ?_
    exact ax_iret (st := []) dX7_isTrue_149 rfl rfl hq
  · rw [if_neg c0] at hq
    refine ax_iload dX7_isTrue_52 rfl ?_
    refine ax_iload dX7_isTrue_54 rfl ?_
    refine ax_icmp_ge (tgt := 124) dX7_isTrue_56 (by decide) (fun _ => ?_) (fun z => absurd (il_le b0 b0 (Nat.le_refl _)) z)
    refine ax_iload_n dX7_isTrue_124 rfl ?_
    refine ax_iconst (v := 1) dX7_isTrue_125 (by decide) ?_
    refine ax_icmp_ne (tgt := 132) dX7_isTrue_126 (by decide) (fun _ => ?_) (fun z => absurd z (by decide))
    refine ax_iload_n dX7_isTrue_132 rfl ?_
    refine ax_iconst (v := 5) dX7_isTrue_133 (by decide) ?_
    refine ax_icmp_ne (tgt := 150) dX7_isTrue_134 (by decide) (fun z => absurd (by decide) z) (fun _ => ?_)
    refine ax_iload dX7_isTrue_137 rfl ?_
    refine ax_iconst (v := 2) dX7_isTrue_139 (by decide) ?_
    refine ax_irem dX7_isTrue_140 (by decide) ?_
    refine ax_top (y := (nI (sm % 2))) (hmod) ?_
    refine ax_if_ne (tgt := 148) dX7_isTrue_141 (by decide) (fun _ => ?_) (fun z => absurd z (by rw [show sm % 2 = 1 by omega]; decide))
    refine ax_iconst (v := 0) dX7_isTrue_148 (by decide) ?_
    exact ax_iret (st := []) dX7_isTrue_149 rfl rfl hq
theorem it_e0 (hA : rw_nd A) (d : Nat) (R : rw_S) (h : ax_H) {ca N : Nat} {f : Nat → Int32} (hca : rw_O A R h ca = some (.inl (0, N, .inl f))) {a0 b0 df c sm le : Nat} {b fl : Int32} (hb0 : b0 ≤ 100) {Q : ax_P} (hq : Q (.inl (some (.int 1))) (rw_O A R h)) : AW G mX7_isTrue (d + 1) 0 0 Q 52 [(0, .ref (A.1 0)), (1, .int (nI 0)), (2, .ref ca), (3, .int (nI a0)), (4, .int (nI b0)), (5, .int (nI df)), (6, .int (nI c)), (7, .int (-1)), (8, .int b), (9, .int (nI sm)), (10, .int fl), (11, .int (nI le)), (12, .int (nI b0))] [] (rw_O A R h) 0 0 := by
  refine ax_iload dX7_isTrue_52 rfl ?_
  refine ax_iload dX7_isTrue_54 rfl ?_
  refine ax_icmp_ge (tgt := 124) dX7_isTrue_56 (by decide) (fun _ => ?_) (fun z => absurd (il_le b0 b0 (Nat.le_refl _)) z)
  refine ax_iload_n dX7_isTrue_124 rfl ?_
  refine ax_iconst (v := 1) dX7_isTrue_125 (by decide) ?_
  refine ax_icmp_ne (tgt := 132) dX7_isTrue_126 (by decide) (fun _ => ?_) (fun z => absurd z (by decide))
  refine ax_iload_n dX7_isTrue_132 rfl ?_
  refine ax_iconst (v := 5) dX7_isTrue_133 (by decide) ?_
  refine ax_icmp_ne (tgt := 150) dX7_isTrue_134 (by decide) (fun _ => ?_) (fun z => absurd z (by decide))
  refine ax_iload_n dX7_isTrue_150 rfl ?_
  refine ax_iconst (v := 2) dX7_isTrue_151 (by decide) ?_
  refine ax_icmp_eq (tgt := 157) dX7_isTrue_152 (by decide) (fun z => absurd z (by decide)) (fun _ => ?_)
  refine ax_iconst (v := 1) dX7_isTrue_155 (by decide) ?_
  exact ax_iret (st := []) dX7_isTrue_156 rfl rfl hq

set_option maxRecDepth 100000 in
set_option maxHeartbeats 4000000 in
theorem ih_beg (hA : rw_nd A) (d : Nat) (R : rw_S) (h : ax_H) {ca N : Nat} {f : Nat → Int32} (hca : rw_O A R h ca = some (.inl (0, N, .inl f))) {a0 b0 df c sm le : Nat} {b fl : Int32} (hb0 : b0 ≤ 100) {Q : ax_P} (kk : AW G mX7_isTrue (d + 1) 0 0 Q 165 [(0, .ref (A.1 0)), (1, .int (nI 2)), (2, .ref ca), (3, .int (nI a0)), (4, .int (nI b0)), (5, .int (nI df)), (6, .int (nI c)), (7, .int (-1)), (8, .int b), (9, .int (nI sm)), (10, .int fl), (11, .int (nI le)), (12, .int (nI (a0 + 1))), (13, .int (nI 0))] [] (rw_O A R h) 0 0) : AW G mX7_isTrue (d + 1) 0 0 Q 52 [(0, .ref (A.1 0)), (1, .int (nI 2)), (2, .ref ca), (3, .int (nI a0)), (4, .int (nI b0)), (5, .int (nI df)), (6, .int (nI c)), (7, .int (-1)), (8, .int b), (9, .int (nI sm)), (10, .int fl), (11, .int (nI le)), (12, .int (nI b0))] [] (rw_O A R h) 0 0 := by
  refine ax_iload dX7_isTrue_52 rfl ?_
  refine ax_iload dX7_isTrue_54 rfl ?_
  refine ax_icmp_ge (tgt := 124) dX7_isTrue_56 (by decide) (fun _ => ?_) (fun z => absurd (il_le b0 b0 (Nat.le_refl _)) z)
  refine ax_iload_n dX7_isTrue_124 rfl ?_
  refine ax_iconst (v := 1) dX7_isTrue_125 (by decide) ?_
  refine ax_icmp_ne (tgt := 132) dX7_isTrue_126 (by decide) (fun _ => ?_) (fun z => absurd z (by decide))
  refine ax_iload_n dX7_isTrue_132 rfl ?_
  refine ax_iconst (v := 5) dX7_isTrue_133 (by decide) ?_
  refine ax_icmp_ne (tgt := 150) dX7_isTrue_134 (by decide) (fun _ => ?_) (fun z => absurd z (by decide))
  refine ax_iload_n dX7_isTrue_150 rfl ?_
  refine ax_iconst (v := 2) dX7_isTrue_151 (by decide) ?_
  refine ax_icmp_eq (tgt := 157) dX7_isTrue_152 (by decide) (fun _ => ?_) (fun z => absurd (by decide) z)
  refine ax_iload_n dX7_isTrue_157 rfl ?_
  refine ax_iconst (v := 1) dX7_isTrue_158 (by decide) ?_
  refine ax_iadd dX7_isTrue_159 ?_
  refine ax_top (y := (nI (a0 + 1))) (nI_1 a0) ?_
  refine ax_istore dX7_isTrue_160 (by decide) ?_
  refine ax_sub (lv' := [(0, .ref (A.1 0)), (1, .int (nI 2)), (2, .ref ca), (3, .int (nI a0)), (4, .int (nI b0)), (5, .int (nI df)), (6, .int (nI c)), (7, .int (-1)), (8, .int b), (9, .int (nI sm)), (10, .int fl), (11, .int (nI le)), (12, .int (nI (a0 + 1)))]) (fun _ z => z) ?_
  refine ax_iconst (v := 0) dX7_isTrue_162 (by decide) ?_
  refine ax_istore dX7_isTrue_163 (by decide) ?_
  refine ax_sub (lv' := [(0, .ref (A.1 0)), (1, .int (nI 2)), (2, .ref ca), (3, .int (nI a0)), (4, .int (nI b0)), (5, .int (nI df)), (6, .int (nI c)), (7, .int (-1)), (8, .int b), (9, .int (nI sm)), (10, .int fl), (11, .int (nI le)), (12, .int (nI (a0 + 1))), (13, .int 0)]) (fun _ z => z) ?_
  exact kk
theorem ih_10 (hA : rw_nd A) (d : Nat) (R : rw_S) (h : ax_H) {ca N : Nat} {f : Nat → Int32} (hca : rw_O A R h ca = some (.inl (0, N, .inl f))) {a0 b0 df c sm le p k : Nat} {b fl : Int32} (hc : c < 6) (hk : k < 3) (h9 : R.2.1 2 (3 * c + k) = -1) {Q : ax_P} (hq : Q (.inl (some (.int 1))) (rw_O A R h)) : AW G mX7_isTrue (d + 1) 0 0 Q 165 [(0, .ref (A.1 0)), (1, .int (nI 2)), (2, .ref ca), (3, .int (nI a0)), (4, .int (nI b0)), (5, .int (nI df)), (6, .int (nI c)), (7, .int (-1)), (8, .int b), (9, .int (nI sm)), (10, .int fl), (11, .int (nI le)), (12, .int (nI p)), (13, .int (nI k))] [] (rw_O A R h) 0 0 := by
  refine ax_iload dX7_isTrue_165 rfl ?_
  refine ax_iconst (v := 3) dX7_isTrue_167 (by decide) ?_
  refine ax_icmp_ge (tgt := 230) dX7_isTrue_168 (by decide) (fun z => absurd z (il_nle 3 k hk)) (fun _ => ?_)
  refine ax_iload dX7_isTrue_171 rfl ?_
  refine ax_iconst (v := (-1)) dX7_isTrue_173 (by decide) ?_
  refine ax_icmp_ne (tgt := 230) dX7_isTrue_174 (by decide) (fun z => absurd rfl z) (fun _ => ?_)
  refine ax_aload_n dX7_isTrue_177 rfl ?_
  refine ax_get (v := .ref (A.1 2)) dX7_isTrue_178 fkX7_17 (rw_g0 hA) rfl ?_
  refine ax_iconst (v := 3) dX7_isTrue_181 (by decide) ?_
  refine ax_iload dX7_isTrue_182 rfl ?_
  refine ax_imul dX7_isTrue_184 ?_
  refine ax_top (y := (nI (3 * c))) ((pk_mul 3 c)) ?_
  refine ax_iload dX7_isTrue_185 rfl ?_
  refine ax_iadd dX7_isTrue_187 ?_
  refine ax_top (y := (nI (3 * c + k))) (nI_add _ _) ?_
  refine ax_ialdv (x := (-1)) dX7_isTrue_188 (rw_g2 hA) (nI_in (by omega) (by decide)) (by rw [nI_clamp (by omega)]; exact h9) ?_
  refine ax_istore dX7_isTrue_189 (by decide) ?_
  refine ax_sub (lv' := [(0, .ref (A.1 0)), (1, .int (nI 2)), (2, .ref ca), (3, .int (nI a0)), (4, .int (nI b0)), (5, .int (nI df)), (6, .int (nI c)), (7, .int (-1)), (8, .int b), (9, .int (nI sm)), (10, .int fl), (11, .int (nI le)), (12, .int (nI p)), (13, .int (nI k)), (14, .int (-1))]) (fun _ z => z) ?_
  refine ax_iload dX7_isTrue_191 rfl ?_
  refine ax_iconst (v := (-1)) dX7_isTrue_193 (by decide) ?_
  refine ax_icmp_ne (tgt := 199) dX7_isTrue_194 (by decide) (fun z => absurd rfl z) (fun _ => ?_)
  refine ax_iconst (v := 1) dX7_isTrue_197 (by decide) ?_
  exact ax_iret (st := []) dX7_isTrue_198 rfl rfl hq
theorem ih_3 (hA : rw_nd A) (d : Nat) (R : rw_S) (h : ax_H) {ca N : Nat} {f : Nat → Int32} (hca : rw_O A R h ca = some (.inl (0, N, .inl f))) {a0 b0 df c sm le p : Nat} {b fl : Int32} {Q : ax_P} (hq : Q (.inl (some (.int 1))) (rw_O A R h)) : AW G mX7_isTrue (d + 1) 0 0 Q 165 [(0, .ref (A.1 0)), (1, .int (nI 2)), (2, .ref ca), (3, .int (nI a0)), (4, .int (nI b0)), (5, .int (nI df)), (6, .int (nI c)), (7, .int (-1)), (8, .int b), (9, .int (nI sm)), (10, .int fl), (11, .int (nI le)), (12, .int (nI p)), (13, .int (nI 3))] [] (rw_O A R h) 0 0 := by
  refine ax_iload dX7_isTrue_165 rfl ?_
  refine ax_iconst (v := 3) dX7_isTrue_167 (by decide) ?_
  refine ax_icmp_ge (tgt := 230) dX7_isTrue_168 (by decide) (fun _ => ?_) (fun z => absurd (by decide) z)
  refine ax_iload dX7_isTrue_230 rfl ?_
  refine ax_iconst (v := (-1)) dX7_isTrue_232 (by decide) ?_
  refine ax_icmp_eq (tgt := 243) dX7_isTrue_233 (by decide) (fun _ => ?_) (fun z => absurd rfl z)
  refine ax_iconst (v := 1) dX7_isTrue_243 (by decide) ?_
  refine ax_goto (tgt := 248) dX7_isTrue_244 (by decide) ?_
  exact ax_iret (st := []) dX7_isTrue_248 rfl rfl hq
theorem ih_part (hA : rw_nd A) (d : Nat) (R : rw_S) (h : ax_H) {ca N : Nat} {f : Nat → Int32} (hca : rw_O A R h ca = some (.inl (0, N, .inl f))) {a0 b0 df c sm le p k : Nat} {b fl : Int32} {u p2 : Nat} (hc : c < 6) (hk : k < 3) (hu : u < 4) (h9 : R.2.1 2 (3 * c + k) = nI u) (IH : AW G mX7_end d 0 0 (fun r h1 => r = .inl (some (.int (nI p2))) ∧ h1 = rw_O A R h) 0 [(0, .ref (A.1 0)), (1, .ref ca), (2, .int (nI p))] [] (rw_O A R h) 0 0) {Q : ax_P} (kk : AW G mX7_isTrue (d + 1) 0 0 Q 165 [(0, .ref (A.1 0)), (1, .int (nI 2)), (2, .ref ca), (3, .int (nI a0)), (4, .int (nI b0)), (5, .int (nI df)), (6, .int (nI c)), (7, .int (-1)), (8, .int b), (9, .int (nI sm)), (10, .int fl), (11, .int (nI le)), (12, .int (nI p2)), (13, .int (nI (k + 1)))] [] (rw_O A R h) 0 0) : AW G mX7_isTrue (d + 1) 0 0 Q 165 [(0, .ref (A.1 0)), (1, .int (nI 2)), (2, .ref ca), (3, .int (nI a0)), (4, .int (nI b0)), (5, .int (nI df)), (6, .int (nI c)), (7, .int (-1)), (8, .int b), (9, .int (nI sm)), (10, .int fl), (11, .int (nI le)), (12, .int (nI p)), (13, .int (nI k))] [] (rw_O A R h) 0 0 := by
  refine ax_iload dX7_isTrue_165 rfl ?_
  refine ax_iconst (v := 3) dX7_isTrue_167 (by decide) ?_
  refine ax_icmp_ge (tgt := 230) dX7_isTrue_168 (by decide) (fun z => absurd z (il_nle 3 k hk)) (fun _ => ?_)
  refine ax_iload dX7_isTrue_171 rfl ?_
  refine ax_iconst (v := (-1)) dX7_isTrue_173 (by decide) ?_
  refine ax_icmp_ne (tgt := 230) dX7_isTrue_174 (by decide) (fun z => absurd rfl z) (fun _ => ?_)
  refine ax_aload_n dX7_isTrue_177 rfl ?_
  refine ax_get (v := .ref (A.1 2)) dX7_isTrue_178 fkX7_17 (rw_g0 hA) rfl ?_
  refine ax_iconst (v := 3) dX7_isTrue_181 (by decide) ?_
  refine ax_iload dX7_isTrue_182 rfl ?_
  refine ax_imul dX7_isTrue_184 ?_
  refine ax_top (y := (nI (3 * c))) ((pk_mul 3 c)) ?_
  refine ax_iload dX7_isTrue_185 rfl ?_
  refine ax_iadd dX7_isTrue_187 ?_
  refine ax_top (y := (nI (3 * c + k))) (nI_add _ _) ?_
  refine ax_ialdv (x := (nI u)) dX7_isTrue_188 (rw_g2 hA) (nI_in (by omega) (by decide)) (by rw [nI_clamp (by omega)]; exact h9) ?_
  refine ax_istore dX7_isTrue_189 (by decide) ?_
  refine ax_sub (lv' := [(0, .ref (A.1 0)), (1, .int (nI 2)), (2, .ref ca), (3, .int (nI a0)), (4, .int (nI b0)), (5, .int (nI df)), (6, .int (nI c)), (7, .int (-1)), (8, .int b), (9, .int (nI sm)), (10, .int fl), (11, .int (nI le)), (12, .int (nI p)), (13, .int (nI k)), (14, .int (nI u))]) (fun _ z => z) ?_
  refine ax_iload dX7_isTrue_191 rfl ?_
  refine ax_iconst (v := (-1)) dX7_isTrue_193 (by decide) ?_
  refine ax_icmp_ne (tgt := 199) dX7_isTrue_194 (by decide) (fun _ => ?_) (fun z => absurd z (nI_m1 (by omega)))
  refine ax_iload dX7_isTrue_199 rfl ?_
  refine ax_bipush (v := 9) dX7_isTrue_201 (by decide) ?_
  refine ax_icmp_ne (tgt := 215) dX7_isTrue_203 (by decide) (fun _ => ?_) (fun z => absurd z (il_ne u 9 (by omega)))
  refine ax_aload_n dX7_isTrue_215 rfl ?_
  refine ax_aload_n dX7_isTrue_216 rfl ?_
  refine ax_iload dX7_isTrue_217 rfl ?_
  refine ax_callV (b := (A.1 0)) (av := [.ref ca, .int (nI p)]) (rest := []) (mc' := 0) (ms' := 0) dX7_isTrue_219 rfl lkX7_106 (rw_g0 hA) rfl (Nat.le_of_ble_eq_true rfl) (Nat.le_of_ble_eq_true rfl) (by decide) (by decide) (IH) (fun E9 h9 q9 => by cases q9.1) (fun v9 h9 q9 => ?_)
  obtain ⟨e9, rfl⟩ := q9
  cases e9
  show AW G mX7_isTrue (d + 1) 0 0 _ 222 [(0, .ref (A.1 0)), (1, .int (nI 2)), (2, .ref ca), (3, .int (nI a0)), (4, .int (nI b0)), (5, .int (nI df)), (6, .int (nI c)), (7, .int (-1)), (8, .int b), (9, .int (nI sm)), (10, .int fl), (11, .int (nI le)), (12, .int (nI p)), (13, .int (nI k)), (14, .int (nI u))] [.int (nI p2)] (rw_O A R h) 0 0
  refine ax_istore dX7_isTrue_222 (by decide) ?_
  refine ax_sub (lv' := [(0, .ref (A.1 0)), (1, .int (nI 2)), (2, .ref ca), (3, .int (nI a0)), (4, .int (nI b0)), (5, .int (nI df)), (6, .int (nI c)), (7, .int (-1)), (8, .int b), (9, .int (nI sm)), (10, .int fl), (11, .int (nI le)), (12, .int (nI p2)), (13, .int (nI k)), (14, .int (nI u))]) (fun _ z => z) ?_
  refine ax_iinc (v := (nI (k + 1))) dX7_isTrue_224 rfl (nI_1 k) (by decide) ?_
  refine ax_sub (lv' := [(0, .ref (A.1 0)), (1, .int (nI 2)), (2, .ref ca), (3, .int (nI a0)), (4, .int (nI b0)), (5, .int (nI df)), (6, .int (nI c)), (7, .int (-1)), (8, .int b), (9, .int (nI sm)), (10, .int fl), (11, .int (nI le)), (12, .int (nI p2)), (13, .int (nI (k + 1))), (14, .int (nI u))]) (fun _ z => z) ?_
  refine ax_goto (tgt := 165) dX7_isTrue_227 (by decide) ?_
  exact ax_sub (fun q hq => List.mem_append_left [(14, Value.int (nI u))] hq) kk
theorem ih_int (hA : rw_nd A) (d : Nat) (R : rw_S) (h : ax_H) {ca N : Nat} {f : Nat → Int32} (hca : rw_O A R h ca = some (.inl (0, N, .inl f))) {a0 b0 df c sm le p k : Nat} {b fl : Int32} {m : Nat} (hc : c < 6) (hk : k < 3) (hp : p < N) (hN : N ≤ 100) (hm : m ≤ 5) (hle : le ≤ 100) (hf : f p = nI m) (h9 : R.2.1 2 (3 * c + k) = nI 9) {Q : ax_P} (hq : Q (.inl (some (.int (if m ≤ le then 1 else 0)))) (rw_O A R h)) : AW G mX7_isTrue (d + 1) 0 0 Q 165 [(0, .ref (A.1 0)), (1, .int (nI 2)), (2, .ref ca), (3, .int (nI a0)), (4, .int (nI b0)), (5, .int (nI df)), (6, .int (nI c)), (7, .int (-1)), (8, .int b), (9, .int (nI sm)), (10, .int fl), (11, .int (nI le)), (12, .int (nI p)), (13, .int (nI k))] [] (rw_O A R h) 0 0 := by
  have hout : ∀ k', AW G mX7_isTrue (d + 1) 0 0 Q 230 [(0, .ref (A.1 0)), (1, .int (nI 2)), (2, .ref ca), (3, .int (nI a0)), (4, .int (nI b0)), (5, .int (nI df)), (6, .int (nI c)), (7, .int (nI m)), (8, .int b), (9, .int (nI sm)), (10, .int fl), (11, .int (nI le)), (12, .int (nI p)), (13, .int k')] [] (rw_O A R h) 0 0 := by
    intro k'
    by_cases c0 : m ≤ le
    · rw [if_pos c0] at hq
      refine ax_iload dX7_isTrue_230 rfl ?_
      refine ax_iconst (v := (-1)) dX7_isTrue_232 (by decide) ?_
      refine ax_icmp_eq (tgt := 243) dX7_isTrue_233 (by decide) (fun z => absurd z (nI_m1 (by omega))) (fun _ => ?_)
      refine ax_iload dX7_isTrue_236 rfl ?_
      refine ax_iload dX7_isTrue_238 rfl ?_
      refine ax_icmp_gt (tgt := 247) dX7_isTrue_240 (by decide) (fun z => absurd z (il_nlt le m c0)) (fun _ => ?_)
      refine ax_iconst (v := 1) dX7_isTrue_243 (by decide) ?_
      refine ax_goto (tgt := 248) dX7_isTrue_244 (by decide) ?_
      exact ax_iret (st := []) dX7_isTrue_248 rfl rfl hq
    · rw [if_neg c0] at hq
      refine ax_iload dX7_isTrue_230 rfl ?_
      refine ax_iconst (v := (-1)) dX7_isTrue_232 (by decide) ?_
      refine ax_icmp_eq (tgt := 243) dX7_isTrue_233 (by decide) (fun z => absurd z (nI_m1 (by omega))) (fun _ => ?_)
      refine ax_iload dX7_isTrue_236 rfl ?_
      refine ax_iload dX7_isTrue_238 rfl ?_
      refine ax_icmp_gt (tgt := 247) dX7_isTrue_240 (by decide) (fun _ => ?_) (fun z => absurd (il_lt le m (by omega)) z)
      refine ax_iconst (v := 0) dX7_isTrue_247 (by decide) ?_
      exact ax_iret (st := []) dX7_isTrue_248 rfl rfl hq
  by_cases hk2 : k + 1 < 3
  · refine ax_iload dX7_isTrue_165 rfl ?_
    refine ax_iconst (v := 3) dX7_isTrue_167 (by decide) ?_
    refine ax_icmp_ge (tgt := 230) dX7_isTrue_168 (by decide) (fun z => absurd z (il_nle 3 k hk)) (fun _ => ?_)
    refine ax_iload dX7_isTrue_171 rfl ?_
    refine ax_iconst (v := (-1)) dX7_isTrue_173 (by decide) ?_
    refine ax_icmp_ne (tgt := 230) dX7_isTrue_174 (by decide) (fun z => absurd rfl z) (fun _ => ?_)
    refine ax_aload_n dX7_isTrue_177 rfl ?_
    refine ax_get (v := .ref (A.1 2)) dX7_isTrue_178 fkX7_17 (rw_g0 hA) rfl ?_
    refine ax_iconst (v := 3) dX7_isTrue_181 (by decide) ?_
    refine ax_iload dX7_isTrue_182 rfl ?_
    refine ax_imul dX7_isTrue_184 ?_
    refine ax_top (y := (nI (3 * c))) ((pk_mul 3 c)) ?_
    refine ax_iload dX7_isTrue_185 rfl ?_
    refine ax_iadd dX7_isTrue_187 ?_
    refine ax_top (y := (nI (3 * c + k))) (nI_add _ _) ?_
    refine ax_ialdv (x := (nI 9)) dX7_isTrue_188 (rw_g2 hA) (nI_in (by omega) (by decide)) (by rw [nI_clamp (by omega)]; exact h9) ?_
    refine ax_istore dX7_isTrue_189 (by decide) ?_
    refine ax_sub (lv' := [(0, .ref (A.1 0)), (1, .int (nI 2)), (2, .ref ca), (3, .int (nI a0)), (4, .int (nI b0)), (5, .int (nI df)), (6, .int (nI c)), (7, .int (-1)), (8, .int b), (9, .int (nI sm)), (10, .int fl), (11, .int (nI le)), (12, .int (nI p)), (13, .int (nI k)), (14, .int (nI 9))]) (fun _ z => z) ?_
    refine ax_iload dX7_isTrue_191 rfl ?_
    refine ax_iconst (v := (-1)) dX7_isTrue_193 (by decide) ?_
    refine ax_icmp_ne (tgt := 199) dX7_isTrue_194 (by decide) (fun _ => ?_) (fun z => absurd z (by decide))
    refine ax_iload dX7_isTrue_199 rfl ?_
    refine ax_bipush (v := 9) dX7_isTrue_201 (by decide) ?_
    refine ax_icmp_ne (tgt := 215) dX7_isTrue_203 (by decide) (fun z => absurd (by decide) z) (fun _ => ?_)
    refine ax_aload_n dX7_isTrue_206 rfl ?_
    refine ax_iload dX7_isTrue_207 rfl ?_
    refine ax_ialdv (x := (nI m)) dX7_isTrue_209 hca (nI_in hp (by omega)) (by rw [nI_clamp (by omega)]; exact hf) ?_
    refine ax_istore dX7_isTrue_210 (by decide) ?_
    refine ax_sub (lv' := [(0, .ref (A.1 0)), (1, .int (nI 2)), (2, .ref ca), (3, .int (nI a0)), (4, .int (nI b0)), (5, .int (nI df)), (6, .int (nI c)), (7, .int (nI m)), (8, .int b), (9, .int (nI sm)), (10, .int fl), (11, .int (nI le)), (12, .int (nI p)), (13, .int (nI k)), (14, .int (nI 9))]) (fun _ z => z) ?_
    refine ax_goto (tgt := 224) dX7_isTrue_212 (by decide) ?_
    refine ax_iinc (v := (nI (k + 1))) dX7_isTrue_224 rfl (nI_1 k) (by decide) ?_
    refine ax_sub (lv' := [(0, .ref (A.1 0)), (1, .int (nI 2)), (2, .ref ca), (3, .int (nI a0)), (4, .int (nI b0)), (5, .int (nI df)), (6, .int (nI c)), (7, .int (nI m)), (8, .int b), (9, .int (nI sm)), (10, .int fl), (11, .int (nI le)), (12, .int (nI p)), (13, .int (nI (k + 1))), (14, .int (nI 9))]) (fun _ z => z) ?_
    refine ax_goto (tgt := 165) dX7_isTrue_227 (by decide) ?_
    refine ax_iload dX7_isTrue_165 rfl ?_
    refine ax_iconst (v := 3) dX7_isTrue_167 (by decide) ?_
    refine ax_icmp_ge (tgt := 230) dX7_isTrue_168 (by decide) (fun z => absurd z (il_nle 3 (k + 1) hk2)) (fun _ => ?_)
    refine ax_iload dX7_isTrue_171 rfl ?_
    refine ax_iconst (v := (-1)) dX7_isTrue_173 (by decide) ?_
    refine ax_icmp_ne (tgt := 230) dX7_isTrue_174 (by decide) (fun _ => ?_) (fun z => absurd z (nI_m1 (by omega)))
    exact ax_sub (fun q hq => List.mem_append_left [(14, Value.int (nI 9))] hq) (hout _)
  · refine ax_iload dX7_isTrue_165 rfl ?_
    refine ax_iconst (v := 3) dX7_isTrue_167 (by decide) ?_
    refine ax_icmp_ge (tgt := 230) dX7_isTrue_168 (by decide) (fun z => absurd z (il_nle 3 k hk)) (fun _ => ?_)
    refine ax_iload dX7_isTrue_171 rfl ?_
    refine ax_iconst (v := (-1)) dX7_isTrue_173 (by decide) ?_
    refine ax_icmp_ne (tgt := 230) dX7_isTrue_174 (by decide) (fun z => absurd rfl z) (fun _ => ?_)
    refine ax_aload_n dX7_isTrue_177 rfl ?_
    refine ax_get (v := .ref (A.1 2)) dX7_isTrue_178 fkX7_17 (rw_g0 hA) rfl ?_
    refine ax_iconst (v := 3) dX7_isTrue_181 (by decide) ?_
    refine ax_iload dX7_isTrue_182 rfl ?_
    refine ax_imul dX7_isTrue_184 ?_
    refine ax_top (y := (nI (3 * c))) ((pk_mul 3 c)) ?_
    refine ax_iload dX7_isTrue_185 rfl ?_
    refine ax_iadd dX7_isTrue_187 ?_
    refine ax_top (y := (nI (3 * c + k))) (nI_add _ _) ?_
    refine ax_ialdv (x := (nI 9)) dX7_isTrue_188 (rw_g2 hA) (nI_in (by omega) (by decide)) (by rw [nI_clamp (by omega)]; exact h9) ?_
    refine ax_istore dX7_isTrue_189 (by decide) ?_
    refine ax_sub (lv' := [(0, .ref (A.1 0)), (1, .int (nI 2)), (2, .ref ca), (3, .int (nI a0)), (4, .int (nI b0)), (5, .int (nI df)), (6, .int (nI c)), (7, .int (-1)), (8, .int b), (9, .int (nI sm)), (10, .int fl), (11, .int (nI le)), (12, .int (nI p)), (13, .int (nI k)), (14, .int (nI 9))]) (fun _ z => z) ?_
    refine ax_iload dX7_isTrue_191 rfl ?_
    refine ax_iconst (v := (-1)) dX7_isTrue_193 (by decide) ?_
    refine ax_icmp_ne (tgt := 199) dX7_isTrue_194 (by decide) (fun _ => ?_) (fun z => absurd z (by decide))
    refine ax_iload dX7_isTrue_199 rfl ?_
    refine ax_bipush (v := 9) dX7_isTrue_201 (by decide) ?_
    refine ax_icmp_ne (tgt := 215) dX7_isTrue_203 (by decide) (fun z => absurd (by decide) z) (fun _ => ?_)
    refine ax_aload_n dX7_isTrue_206 rfl ?_
    refine ax_iload dX7_isTrue_207 rfl ?_
    refine ax_ialdv (x := (nI m)) dX7_isTrue_209 hca (nI_in hp (by omega)) (by rw [nI_clamp (by omega)]; exact hf) ?_
    refine ax_istore dX7_isTrue_210 (by decide) ?_
    refine ax_sub (lv' := [(0, .ref (A.1 0)), (1, .int (nI 2)), (2, .ref ca), (3, .int (nI a0)), (4, .int (nI b0)), (5, .int (nI df)), (6, .int (nI c)), (7, .int (nI m)), (8, .int b), (9, .int (nI sm)), (10, .int fl), (11, .int (nI le)), (12, .int (nI p)), (13, .int (nI k)), (14, .int (nI 9))]) (fun _ z => z) ?_
    refine ax_goto (tgt := 224) dX7_isTrue_212 (by decide) ?_
    refine ax_iinc (v := (nI (k + 1))) dX7_isTrue_224 rfl (nI_1 k) (by decide) ?_
    refine ax_sub (lv' := [(0, .ref (A.1 0)), (1, .int (nI 2)), (2, .ref ca), (3, .int (nI a0)), (4, .int (nI b0)), (5, .int (nI df)), (6, .int (nI c)), (7, .int (nI m)), (8, .int b), (9, .int (nI sm)), (10, .int fl), (11, .int (nI le)), (12, .int (nI p)), (13, .int (nI (k + 1))), (14, .int (nI 9))]) (fun _ z => z) ?_
    refine ax_goto (tgt := 165) dX7_isTrue_227 (by decide) ?_
    refine ax_iload dX7_isTrue_165 rfl ?_
    refine ax_iconst (v := 3) dX7_isTrue_167 (by decide) ?_
    refine ax_icmp_ge (tgt := 230) dX7_isTrue_168 (by decide) (fun _ => ?_) (fun z => absurd (il_le 3 (k + 1) (by omega)) z)
    exact ax_sub (fun q hq => List.mem_append_left [(14, Value.int (nI 9))] hq) (hout _)

set_option maxRecDepth 100000 in
set_option maxHeartbeats 4000000 in
theorem is_3 (hA : rw_nd A) (d : Nat) (R : rw_S) (h : ax_H) {ca N : Nat} {f : Nat → Int32} (hca : rw_O A R h ca = some (.inl (0, N, .inl f))) {a0 b0 df c : Nat} (hdf : df < 2 ^ 31) {Q : ax_P} (hq : Q (.inl (some (.int (if df = 0 then 1 else 0)))) (rw_O A R h)) : AW G mX7_isTrue (d + 1) 0 0 Q 0 [(0, .ref (A.1 0)), (1, .int (nI 3)), (2, .ref ca), (3, .int (nI a0)), (4, .int (nI b0)), (5, .int (nI df)), (6, .int (nI c))] [] (rw_O A R h) 0 0 := by
  by_cases c0 : df = 0
  · rw [if_pos c0] at hq
    refine ax_iload_n dX7_isTrue_0 rfl ?_
    refine ax_iconst (v := 3) dX7_isTrue_1 (by decide) ?_
    refine ax_icmp_ne (tgt := 16) dX7_isTrue_2 (by decide) (fun z => absurd (by decide) z) (fun _ => ?_)
    refine ax_iload dX7_isTrue_5 rfl ?_
    refine ax_if_ne (tgt := 14) dX7_isTrue_7 (by decide) (fun z => absurd (by rw [c0]; decide) z) (fun _ => ?_)
    refine ax_iconst (v := 1) dX7_isTrue_10 (by decide) ?_
    refine ax_goto (tgt := 15) dX7_isTrue_11 (by decide) ?_
    exact ax_iret (st := []) dX7_isTrue_15 rfl rfl hq
  · rw [if_neg c0] at hq
    refine ax_iload_n dX7_isTrue_0 rfl ?_
    refine ax_iconst (v := 3) dX7_isTrue_1 (by decide) ?_
    refine ax_icmp_ne (tgt := 16) dX7_isTrue_2 (by decide) (fun z => absurd (by decide) z) (fun _ => ?_)
    refine ax_iload dX7_isTrue_5 rfl ?_
    refine ax_if_ne (tgt := 14) dX7_isTrue_7 (by decide) (fun _ => ?_) (fun z => absurd z (nI_ne0 (by omega) hdf))
    refine ax_iconst (v := 0) dX7_isTrue_14 (by decide) ?_
    exact ax_iret (st := []) dX7_isTrue_15 rfl rfl hq
theorem is_4 (hA : rw_nd A) (d : Nat) (R : rw_S) (h : ax_H) {ca N : Nat} {f : Nat → Int32} (hca : rw_O A R h ca = some (.inl (0, N, .inl f))) {a0 b0 df c : Nat} (hdf : df < 2 ^ 31) {Q : ax_P} (hq : Q (.inl (some (.int (if df ≤ 1 then 1 else 0)))) (rw_O A R h)) : AW G mX7_isTrue (d + 1) 0 0 Q 0 [(0, .ref (A.1 0)), (1, .int (nI 4)), (2, .ref ca), (3, .int (nI a0)), (4, .int (nI b0)), (5, .int (nI df)), (6, .int (nI c))] [] (rw_O A R h) 0 0 := by
  by_cases c0 : df ≤ 1
  · rw [if_pos c0] at hq
    refine ax_iload_n dX7_isTrue_0 rfl ?_
    refine ax_iconst (v := 3) dX7_isTrue_1 (by decide) ?_
    refine ax_icmp_ne (tgt := 16) dX7_isTrue_2 (by decide) (fun _ => ?_) (fun z => absurd z (by decide))
    refine ax_iload_n dX7_isTrue_16 rfl ?_
    refine ax_iconst (v := 4) dX7_isTrue_17 (by decide) ?_
    refine ax_icmp_ne (tgt := 33) dX7_isTrue_18 (by decide) (fun z => absurd (by decide) z) (fun _ => ?_)
    refine ax_iload dX7_isTrue_21 rfl ?_
    refine ax_iconst (v := 1) dX7_isTrue_23 (by decide) ?_
    refine ax_icmp_gt (tgt := 31) dX7_isTrue_24 (by decide) (fun z => absurd z (il_nlt 1 df c0)) (fun _ => ?_)
    refine ax_iconst (v := 1) dX7_isTrue_27 (by decide) ?_
    refine ax_goto (tgt := 32) dX7_isTrue_28 (by decide) ?_
    exact ax_iret (st := []) dX7_isTrue_32 rfl rfl hq
  · rw [if_neg c0] at hq
    refine ax_iload_n dX7_isTrue_0 rfl ?_
    refine ax_iconst (v := 3) dX7_isTrue_1 (by decide) ?_
    refine ax_icmp_ne (tgt := 16) dX7_isTrue_2 (by decide) (fun _ => ?_) (fun z => absurd z (by decide))
    refine ax_iload_n dX7_isTrue_16 rfl ?_
    refine ax_iconst (v := 4) dX7_isTrue_17 (by decide) ?_
    refine ax_icmp_ne (tgt := 33) dX7_isTrue_18 (by decide) (fun z => absurd (by decide) z) (fun _ => ?_)
    refine ax_iload dX7_isTrue_21 rfl ?_
    refine ax_iconst (v := 1) dX7_isTrue_23 (by decide) ?_
    refine ax_icmp_gt (tgt := 31) dX7_isTrue_24 (by decide) (fun _ => ?_) (fun z => absurd (il_lt 1 df (by omega)) z)
    refine ax_iconst (v := 0) dX7_isTrue_31 (by decide) ?_
    exact ax_iret (st := []) dX7_isTrue_32 rfl rfl hq
theorem is_o (hA : rw_nd A) (d : Nat) (R : rw_S) (h : ax_H) {ca N : Nat} {f : Nat → Int32} (hca : rw_O A R h ca = some (.inl (0, N, .inl f))) {cd a0 b0 df c : Nat} (h5 : cd ≤ 5) (h3 : cd ≠ 3) (h4 : cd ≠ 4) {Q : ax_P} (kk : AW G mX7_isTrue (d + 1) 0 0 Q 52 [(0, .ref (A.1 0)), (1, .int (nI cd)), (2, .ref ca), (3, .int (nI a0)), (4, .int (nI b0)), (5, .int (nI df)), (6, .int (nI c)), (7, .int (-1)), (8, .int (-1)), (9, .int 0), (10, .int 1), (11, .int 100), (12, .int (nI a0))] [] (rw_O A R h) 0 0) : AW G mX7_isTrue (d + 1) 0 0 Q 0 [(0, .ref (A.1 0)), (1, .int (nI cd)), (2, .ref ca), (3, .int (nI a0)), (4, .int (nI b0)), (5, .int (nI df)), (6, .int (nI c))] [] (rw_O A R h) 0 0 := by
  refine ax_iload_n dX7_isTrue_0 rfl ?_
  refine ax_iconst (v := 3) dX7_isTrue_1 (by decide) ?_
  refine ax_icmp_ne (tgt := 16) dX7_isTrue_2 (by decide) (fun _ => ?_) (fun z => absurd z (il_ne cd 3 h3))
  refine ax_iload_n dX7_isTrue_16 rfl ?_
  refine ax_iconst (v := 4) dX7_isTrue_17 (by decide) ?_
  refine ax_icmp_ne (tgt := 33) dX7_isTrue_18 (by decide) (fun _ => ?_) (fun z => absurd z (il_ne cd 4 h4))
  refine ax_iconst (v := (-1)) dX7_isTrue_33 (by decide) ?_
  refine ax_istore dX7_isTrue_34 (by decide) ?_
  refine ax_sub (lv' := [(0, .ref (A.1 0)), (1, .int (nI cd)), (2, .ref ca), (3, .int (nI a0)), (4, .int (nI b0)), (5, .int (nI df)), (6, .int (nI c)), (7, .int (-1))]) (fun _ z => z) ?_
  refine ax_iconst (v := (-1)) dX7_isTrue_36 (by decide) ?_
  refine ax_istore dX7_isTrue_37 (by decide) ?_
  refine ax_sub (lv' := [(0, .ref (A.1 0)), (1, .int (nI cd)), (2, .ref ca), (3, .int (nI a0)), (4, .int (nI b0)), (5, .int (nI df)), (6, .int (nI c)), (7, .int (-1)), (8, .int (-1))]) (fun _ z => z) ?_
  refine ax_iconst (v := 0) dX7_isTrue_39 (by decide) ?_
  refine ax_istore dX7_isTrue_40 (by decide) ?_
  refine ax_sub (lv' := [(0, .ref (A.1 0)), (1, .int (nI cd)), (2, .ref ca), (3, .int (nI a0)), (4, .int (nI b0)), (5, .int (nI df)), (6, .int (nI c)), (7, .int (-1)), (8, .int (-1)), (9, .int 0)]) (fun _ z => z) ?_
  refine ax_iconst (v := 1) dX7_isTrue_42 (by decide) ?_
  refine ax_istore dX7_isTrue_43 (by decide) ?_
  refine ax_sub (lv' := [(0, .ref (A.1 0)), (1, .int (nI cd)), (2, .ref ca), (3, .int (nI a0)), (4, .int (nI b0)), (5, .int (nI df)), (6, .int (nI c)), (7, .int (-1)), (8, .int (-1)), (9, .int 0), (10, .int 1)]) (fun _ z => z) ?_
  refine ax_bipush (v := 100) dX7_isTrue_45 (by decide) ?_
  refine ax_istore dX7_isTrue_47 (by decide) ?_
  refine ax_sub (lv' := [(0, .ref (A.1 0)), (1, .int (nI cd)), (2, .ref ca), (3, .int (nI a0)), (4, .int (nI b0)), (5, .int (nI df)), (6, .int (nI c)), (7, .int (-1)), (8, .int (-1)), (9, .int 0), (10, .int 1), (11, .int 100)]) (fun _ z => z) ?_
  refine ax_iload_n dX7_isTrue_49 rfl ?_
  refine ax_istore dX7_isTrue_50 (by decide) ?_
  refine ax_sub (lv' := [(0, .ref (A.1 0)), (1, .int (nI cd)), (2, .ref ca), (3, .int (nI a0)), (4, .int (nI b0)), (5, .int (nI df)), (6, .int (nI c)), (7, .int (-1)), (8, .int (-1)), (9, .int 0), (10, .int 1), (11, .int 100), (12, .int (nI a0))]) (fun _ z => z) ?_
  exact kk

/-- the pieces of a code are those of the arguments -/
def rc_pcs (g : sp_G) (q : sp_C) (n : Nat) (xs : List sp_X) (ps : List (List Nat)) : Prop := ps.length = xs.length ∧ ∀ (j : Nat) (x : sp_X) (P : List Nat), xs[j]? = some x → ps[j]? = some P → match x with
  | .inl m => m ≤ 5 ∧ sp_par q j = 9 ∧ P = [m]
  | .inr p => sp_par q j < 4 ∧ sp_wf g n (sp_par q j) P ∧ it_f P = p.2.2.2 ∧ (∀ a ∈ P, a ≤ 5 ∨ (100 ≤ a ∧ a ≤ 105))
theorem rc_f {g : sp_G} {q : sp_C} {n : Nat} : ∀ {xs : List sp_X} {ps : List (List Nat)}, ps.length = xs.length → (∀ (j : Nat) (x : sp_X) (P : List Nat), xs[j]? = some x → ps[j]? = some P → match x with | .inl m => m ≤ 5 ∧ P = [m] | .inr p => it_f P = p.2.2.2 ∧ (∀ a ∈ P, a ≤ 5 ∨ (100 ≤ a ∧ a ≤ 105))) → it_f ps.flatten = sp_ints xs ∧ ∀ a ∈ ps.flatten, a ≤ 5 ∨ (100 ≤ a ∧ a ≤ 105) := by
  intro xs
  induction xs with
  | nil => intro ps hl _; rw [List.length_eq_zero_iff.mp hl]; exact ⟨rfl, fun a z => by simp at z⟩
  | cons x xs ih =>
    intro ps hl hj
    cases ps with
    | nil => simp at hl
    | cons P ps =>
      have hl : ps.length = xs.length := by simpa using hl
      obtain ⟨i1, i2⟩ := ih hl (fun j x P a b => hj (j + 1) x P a b)
      have h0 := hj 0 x P rfl rfl
      have hfl : it_f (P ++ ps.flatten) = it_f P ++ it_f ps.flatten := List.filter_append _ _
      rw [List.flatten_cons, hfl, i1]
      cases x with
      | inl m =>
        obtain ⟨z1, z2⟩ := h0
        subst z2
        refine ⟨?_, fun a ha => ?_⟩
        · rw [show it_f [m] = [m] from List.filter_cons_of_pos (by simp; omega)]; rfl
        · rcases List.mem_append.mp ha with z | z
          · rw [List.mem_singleton.mp z]; exact Or.inl z1
          · exact i2 a z
      | inr p =>
        obtain ⟨z1, z2⟩ := h0
        refine ⟨by rw [z1]; rfl, fun a ha => ?_⟩
        rcases List.mem_append.mp ha with z | z
        · exact z2 a z
        · exact i2 a z
theorem rc_pcs_f {g : sp_G} {q : sp_C} {n : Nat} {xs : List sp_X} {ps : List (List Nat)} (h : rc_pcs g q n xs ps) : it_f ps.flatten = sp_ints xs ∧ ∀ a ∈ ps.flatten, a ≤ 5 ∨ (100 ≤ a ∧ a ≤ 105) := by
  refine rc_f (g := g) (q := q) (n := n) h.1 (fun j x P a b => ?_)
  have := h.2 j x P a b
  cases x with
  | inl m => exact ⟨this.1, this.2.2⟩
  | inr p => exact ⟨this.2.2.1, this.2.2.2⟩
theorem sp_fst_drop {xs : List sp_X} : ∀ (k : Nat), (∀ j, j < k → ∀ m, xs[j]? ≠ some (.inl m)) → sp_fst xs = sp_fst (xs.drop k) := by
  induction xs with
  | nil => intro k _; rw [List.drop_nil]
  | cons x r ih =>
    intro k hk
    cases k with
    | zero => rfl
    | succ k =>
      cases x with
      | inl m => exact absurd rfl (hk 0 (by omega) m)
      | inr p => exact ih k (fun j hj m => hk (j + 1) (by omega) m)
theorem r_isTrue (hA : rw_nd A) {g : sp_G} (hw : sp_wg g) (R : rw_S) (hg : rw_gr R g) (h : ax_H) {ca N : Nat} {f : Nat → Int32} {L : List Nat} (hcd : rw_cd L N f) (hca : rw_O A R h ca = some (.inl (0, N, .inl f))) {c n cd a0 b0 df : Nat} {q : sp_C} {xs : List sp_X} {ps : List (List Nat)} {rest : List Nat} (h1 : g.2.2.2[c]? = some q) (hx : xs.length = sp_ar q) (hps : rc_pcs g q n xs ps) (hdr : L.drop a0 = (100 + c) :: (ps.flatten ++ rest)) (hb : b0 = a0 + 1 + ps.flatten.length) (hd3 : df = sp_max (sp_hts xs) - sp_min (sp_hts xs)) (hh : ∀ n ∈ sp_hts xs, n ≤ 100) (h5 : cd ≤ 5) (d : Nat) (hnd : n ≤ d) : AW G mX7_isTrue (d + 1) 0 0 (fun r h1 => r = .inl (some (.int (if sp_cond cd xs then 1 else 0))) ∧ h1 = rw_O A R h) 0 [(0, .ref (A.1 0)), (1, .int (nI cd)), (2, .ref ca), (3, .int (nI a0)), (4, .int (nI b0)), (5, .int (nI df)), (6, .int (nI c))] [] (rw_O A R h) 0 0 := by
  obtain ⟨l1, l2, l3⟩ := hcd
  have hc6 : c < 6 := Nat.lt_of_lt_of_le (List.getElem?_eq_some_iff.mp h1).1 hw.2.2.2.1
  have hlen := congrArg List.length hdr
  rw [List.length_drop, List.length_cons, List.length_append] at hlen
  obtain ⟨g1, g2⟩ := rc_pcs_f hps
  have hmm := sp_min_le_max (sp_hts xs)
  have hmx : sp_max (sp_hts xs) ≤ 100 := sp_max_le hh
  have ha3 := sp_ar_le q
  by_cases e3 : cd = 3
  · subst e3
    refine is_3 hA d R h hca (by omega) ⟨?_, rfl⟩
    show _ = Sum.inl (some (Value.int (if decide (sp_max (sp_hts xs) = sp_min (sp_hts xs)) = true then 1 else 0)))
    by_cases z : df = 0
    · rw [if_pos z, if_pos (decide_eq_true (by omega))]
    · rw [if_neg z, if_neg (by simp; omega)]
  by_cases e4 : cd = 4
  · subst e4
    refine is_4 hA d R h hca (by omega) ⟨?_, rfl⟩
    show _ = Sum.inl (some (Value.int (if decide (sp_max (sp_hts xs) ≤ sp_min (sp_hts xs) + 1) = true then 1 else 0)))
    by_cases z : df ≤ 1
    · rw [if_pos z, if_pos (decide_eq_true (by omega))]
    · rw [if_neg z, if_neg (by simp; omega)]
  have hWf : it_f ((100 + c) :: ps.flatten) = sp_ints xs := by
    rw [← g1]
    exact List.filter_cons_of_neg (by simp)
  have hints : ∀ x ∈ sp_ints xs, x ≤ 5 := by
    intro x hx
    rw [← g1] at hx
    obtain ⟨z1, z2⟩ := List.mem_filter.mp hx
    have := g2 x z1
    have z2 := of_decide_eq_true z2
    omega
  refine is_o hA d R h hca h5 e3 e4 ?_
  have hloop := it_loop (G := G) hA d R h hca (cd := cd) (a0 := a0) (b0 := b0) (df := df) (c := c) (W := (100 + c) :: ps.flatten) (by omega) l2 (fun i a hi => ?_) (by rw [List.length_cons]; omega) (Q := fun r h1 => r = .inl (some (.int (if sp_cond cd xs then 1 else 0))) ∧ h1 = rw_O A R h) ?_ ((100 + c) :: ps.flatten).length 0 (by omega)
  · exact hloop
  · have hLi : L[a0 + i]? = some a := by
      rw [← List.getElem?_drop, hdr, ← List.cons_append, List.getElem?_append_left (List.getElem?_eq_some_iff.mp hi).1]
      exact hi
    refine ⟨l3 _ _ hLi, ?_⟩
    have hm := List.mem_of_getElem? hi
    rcases List.mem_cons.mp hm with z | z
    · exact Or.inr (by omega)
    · exact g2 a z
  · rw [hWf]
    have hsum := sp_sum_le (l := sp_ints xs) hints
    have hil : (sp_ints xs).length ≤ 100 := by
      rw [← g1]
      have := List.length_filter_le (fun a => decide (a < 100)) ps.flatten
      show (List.filter _ _).length ≤ 100
      omega
    rcases (show cd = 0 ∨ cd = 1 ∨ cd = 2 ∨ cd = 5 by omega) with rfl | rfl | rfl | rfl
    · exact it_e0 hA d R h hca (by omega) ⟨rfl, rfl⟩
    · exact it_e1 hA d R h hca (by omega) (by cases sp_asc (sp_ints xs) <;> rfl) ⟨rfl, rfl⟩
    · refine ih_beg hA d R h hca (by omega) ?_
      have loop : ∀ (i k : Nat), k + i = xs.length → (∀ j, j < k → ∀ m, xs[j]? ≠ some (.inl m)) → AW G mX7_isTrue (d + 1) 0 0 (fun r h1 => r = .inl (some (.int (if sp_cond 2 xs then 1 else 0))) ∧ h1 = rw_O A R h) 165 [(0, .ref (A.1 0)), (1, .int (nI 2)), (2, .ref ca), (3, .int (nI a0)), (4, .int (nI b0)), (5, .int (nI df)), (6, .int (nI c)), (7, .int (-1)), (8, .int (it_b (sp_ints xs))), (9, .int (nI (sp_ints xs).sum)), (10, .int (if sp_asc (sp_ints xs) then 1 else 0)), (11, .int (nI (it_l (sp_ints xs)))), (12, .int (nI (a0 + 1 + (ps.take k).flatten.length))), (13, .int (nI k))] [] (rw_O A R h) 0 0 := by
        intro i
        induction i with
        | zero =>
          intro k hk hno
          have hk : k = xs.length := by omega
          subst hk
          have hfs : sp_fst xs = none := by
            rw [sp_fst_drop xs.length hno, List.drop_length]; rfl
          have hcond : (if sp_cond 2 xs then 1 else 0 : Int32) = 1 := by
            show (if (match sp_fst xs with | none => true | some n => decide (n ≤ sp_min (sp_ints xs))) = true then 1 else 0 : Int32) = 1
            rw [hfs]; rfl
          rw [hcond]
          by_cases hk3 : xs.length < 3
          · refine ih_10 hA d R h hca hc6 hk3 ?_ ⟨rfl, rfl⟩
            rw [(hg.2.2.2.2 c q h1).2.1 _ hk3, sp_ar_10 hx.symm hk3]; decide
          · have hk3 : xs.length = 3 := by omega
            rw [hk3]
            exact ih_3 hA d R h hca ⟨rfl, rfl⟩
        | succ i ihi =>
          intro k hk hno
          have hkl : k < xs.length := by omega
          have hkp : k < ps.length := by have := hps.1; omega
          have hpar := (hg.2.2.2.2 c q h1).2.1 k (by omega)
          have hj := hps.2 k xs[k] ps[k] (List.getElem?_eq_getElem hkl) (List.getElem?_eq_getElem hkp)
          have hpf : ps.flatten = (ps.take k).flatten ++ (ps[k] ++ (ps.drop (k + 1)).flatten) := by
            rw [← List.flatten_cons, ← List.drop_eq_getElem_cons hkp, ← List.flatten_append, List.take_append_drop]
          have hdk : L.drop (a0 + 1 + (ps.take k).flatten.length) = ps[k] ++ ((ps.drop (k + 1)).flatten ++ rest) := by
            rw [Nat.add_assoc, ← List.drop_drop, ← List.drop_drop, hdr, List.drop_one, List.tail_cons, hpf, List.append_assoc, List.drop_left', List.append_assoc]
            rfl
          cases hxk : xs[k] with
          | inl m =>
            rw [hxk] at hj
            obtain ⟨z1, z2, z3⟩ := hj
            rw [z3] at hdk
            obtain ⟨b1, b2, b3, -⟩ := sp_drop_cons hdk
            have hfs : sp_fst xs = some m := by
              rw [sp_fst_drop k hno, List.drop_eq_getElem_cons hkl, hxk]; rfl
            have hne : sp_ints xs ≠ [] := fun e => by
              have := sp_fst_in hfs
              rw [e] at this; cases this
            have hlm := it_l_min hints hne
            refine ih_int hA d R h hca hc6 (by omega) (by omega) l2 z1 (it_l_le _) (l3 _ _ b2) (by rw [hpar, z2]; decide) ⟨?_, rfl⟩
            rw [hlm]
            show _ = Sum.inl (some (Value.int (if (match sp_fst xs with | none => true | some n => decide (n ≤ sp_min (sp_ints xs))) = true then 1 else 0)))
            rw [hfs]
            show _ = Sum.inl (some (Value.int (if decide (m ≤ sp_min (sp_ints xs)) = true then 1 else 0)))
            by_cases z : m ≤ sp_min (sp_ints xs)
            · rw [if_pos z, if_pos (decide_eq_true z)]
            · rw [if_neg z, if_neg (by simpa using z)]
          | inr p =>
            rw [hxk] at hj
            obtain ⟨z1, z2, z3, z4⟩ := hj
            have hki := ihi (k + 1) (by omega) (fun j hj m => by
              by_cases hjk : j = k
              · subst hjk; rw [List.getElem?_eq_getElem hkl, hxk]; intro z; cases z
              · exact hno j (by omega) m)
            rw [List.take_succ_eq_append_getElem hkp, List.flatten_append, List.length_append, List.flatten_singleton, ← Nat.add_assoc] at hki
            exact ih_part hA d R h hca hc6 (by omega) z1 (by rw [hpar]; exact sp_pI_9 (by omega)) (r_end hA hw R hg h ⟨l1, l2, l3⟩ hca n _ _ _ _ z2 hdk d hnd) hki
      have := loop xs.length 0 (by omega) (fun j hj => absurd hj (by omega))
      rw [List.take_zero] at this
      exact this
    · refine it_e5 hA d R h hca (by omega) (by omega) ⟨?_, rfl⟩
      show _ = Sum.inl (some (Value.int (if decide ((sp_ints xs).sum % 2 = 0) = true then 1 else 0)))
      by_cases z : (sp_ints xs).sum % 2 = 0
      · rw [if_pos z, if_pos (decide_eq_true z)]
      · rw [if_neg z, if_neg (by simpa using z)]
end RTRUE
