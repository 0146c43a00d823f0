/-! ===== keep ===== -/
theorem st_keep {S S' : cs_S} {T : List sp_E} {v t c : Nat} {xs : List sp_X} (hT : st_T S T) (hlen : T.length < 300) (ht : t < 4) (hok : sp_ok (cs_vf S v) (cs_vn S v) (cs_vp S v) t c xs)
    (q1 : ∀ i, i ≠ 4 → S'.1 i = S.1 i) (q2 : S'.1 4 = nI (T.length + 1)) (q3 : ∀ i, i ≠ 9 → S'.2.1 i = S.2.1 i) (q4 : S'.2.1 9 = upd (S.2.1 9) t (nI (sp_cnt T t + 1))) (q5 : ∀ i, i ≠ 8 → S'.2.2.1 i = S.2.2.1 i) (q6 : S'.2.2.1 8 = va_up (S.2.2.1 8) (t * 300 + sp_cnt T t) (some T.length))
    (q7 : ∀ w, w ≠ T.length → cs_vf S' w = cs_vf S w ∧ cs_vn S' w = cs_vn S w ∧ cs_vp S' w = cs_vp S w) (q8 : cs_vf S' T.length = upd (cs_vf S v) 1 (nI (sp_cnt T t))) (q9 : ∀ j, j < xs.length → cs_vn S' T.length j = cs_vn S v j ∧ cs_vp S' T.length j = cs_vp S v j) (q10 : S'.2.2.2.2.2.2 = S.2.2.2.2.2.2) (hwT : sp_wT T) :
    st_T S' (T ++ [(t, c, xs)]) ∧ st_same 3 S S' := by
  obtain ⟨h1, h2, h3⟩ := hT
  refine ⟨⟨?_, ?_, ?_⟩, fun i a _ => q1 i a, q3, q5, fun w a _ => q7 w (by omega), q10⟩
  · rw [q2, List.length_append, List.length_singleton]
  · intro t' ht'
    rw [q4, sp_cnt_snoc]
    by_cases h : t' = t
    · subst h; rw [pk_us, if_pos rfl]
    · rw [pk_un h, h2 t' ht', if_neg (fun z => h z.symm)]; rfl
  · intro w e he
    by_cases hw : w < T.length
    · rw [List.getElem?_append_left hw] at he
      obtain ⟨a1, a2, a3⟩ := h3 w e he
      obtain ⟨b1, b2, b3⟩ := q7 w (by omega)
      rw [b1, b2, b3, List.take_append_of_le_length (Nat.le_of_lt hw)]
      refine ⟨a1, a2, ?_⟩
      rw [q6]
      have hcw : sp_cnt (T.take w) e.1 ≤ w := Nat.le_trans (sp_cnt_le _ _) (by rw [List.length_take]; omega)
      have hct := sp_cnt_le T t
      have he4 := (hwT.2 w e he).1
      have hne : ¬ e.1 * 300 + sp_cnt (T.take w) e.1 = t * 300 + sp_cnt T t := by
        intro hz
        have het : e.1 = t := by omega
        have h5 := sp_of_in he
        have h6 := (List.getElem?_eq_some_iff.mp h5).1
        rw [sp_of_len] at h6
        rw [het] at h6 hz
        omega
      simp only [va_up, hne, if_false]
      exact a3
    · have h5 := (List.getElem?_eq_some_iff.mp he).1
      simp at h5
      have : w = T.length := by omega
      subst this
      simp at he
      subst he
      rw [List.take_left' rfl, q8, q6]
      refine ⟨?_, pk_us, by simp [va_up]⟩
      obtain ⟨a0, a2, a3, a6, a7, a8, a9, a10, a11, a12, a15, anu, apa⟩ := hok
      refine ⟨a0, a2, a3, a6, a7, a8, a9, a10, a11, a12, a15, fun j n hj => ?_, fun j q hj => ?_⟩
      · have hl := (List.getElem?_eq_some_iff.mp hj).1
        rw [(q9 j hl).1, (q9 j hl).2]; exact anu j n hj
      · have hl := (List.getElem?_eq_some_iff.mp hj).1
        rw [(q9 j hl).2]; exact apa j q hj

set_option maxRecDepth 100000 in
set_option maxHeartbeats 4000000 in
theorem ch_keepF {G : ax_G} {ad : cs_K → Nat} (hi : cs_inj ad) (d : Nat) (S : cs_S) (h : ax_H) {T : List sp_E} (hT : st_T S T) (hwT : sp_wT T) (hf : st_fix S) {v t c : Nat} {xs : List sp_X} (hv : v < 312) (hv3 : 300 ≤ v) (hok : sp_ok (cs_vf S v) (cs_vn S v) (cs_vp S v) t c xs) (hm : xs.length ≤ 3) (ht : t < 4) (h5 : S.1 5 = 0) (hp : ∀ j, j < xs.length → ∀ y, cs_vp S v j = some y → y < T.length) (hl : T.length = 300) : AW G mX3_keep d 0 0 (fun r h1 => r = .inl none ∧ ∃ S', S' = cs_setS S 5 1 ∧ h1 = cs_O ad S' h) 0 [(0, .ref (ad (0, 6))), (1, .ref (ad (1, v)))] [] (cs_O ad S h) 0 0 := by
  obtain ⟨Q, hQ⟩ : ∃ Q : ax_P, Q = (fun r h1 => r = .inl none ∧ ∃ S', S' = cs_setS S 5 1 ∧ h1 = cs_O ad S' h) := ⟨_, rfl⟩
  rw [← hQ]
  have hl3 := hwT.1
  refine ax_aload_n dX3_keep_0 rfl ?_
  refine ax_get (v := .int (nI t)) dX3_keep_1 fkX3_49 (cs_get hi (cs_k1 hv)) (congrArg (fun z => some (Value.int z)) (hok.1)) ?_
  refine ax_istore_n dX3_keep_4 (by decide) ?_
  refine ax_sub (lv' := [(0, .ref (ad (0, 6))), (1, .ref (ad (1, v))), (2, .int (nI t))]) (fun _ z => z) ?_
  refine ax_aload_n dX3_keep_5 rfl ?_
  refine ax_get (v := .int (nI T.length)) dX3_keep_6 fkX3_35 (cs_get hi (cs_k0 (by decide))) (congrArg (fun z => some (Value.int z)) (hT.1)) ?_
  refine ax_if_lt (tgt := 34) dX3_keep_9 (by decide) (fun z => absurd z (nI_pos (by omega))) (fun _ => ?_)
  refine ax_aload_n dX3_keep_12 rfl ?_
  refine ax_get (v := .int (nI T.length)) dX3_keep_13 fkX3_35 (cs_get hi (cs_k0 (by decide))) (congrArg (fun z => some (Value.int z)) (hT.1)) ?_
  refine ax_sipush (v := 300) dX3_keep_16 (by decide) ?_
  refine ax_icmp_ge (tgt := 34) dX3_keep_19 (by decide) (fun _ => ?_) (fun z => absurd (il_le 300 T.length (by omega)) z)
  refine ax_aload_n dX3_keep_34 rfl ?_
  refine ax_iconst (v := 1) dX3_keep_35 (by decide) ?_
  refine ax_put dX3_keep_36 fpX3_39 (cs_get hi (cs_k0 (by decide))) rfl rfl (Nat.le_of_ble_eq_true rfl) ?_
  refine ax_eqh (cs_ps5 hi) ?_
  exact ax_vret (st := []) dX3_keep_39 rfl (by rw [hQ]; exact ⟨rfl, _, rfl, rfl⟩)
set_option maxRecDepth 100000 in
set_option maxHeartbeats 4000000 in
theorem ch_keepR {G : ax_G} {ad : cs_K → Nat} (hi : cs_inj ad) (d : Nat) (S : cs_S) (h : ax_H) {T : List sp_E} (hT : st_T S T) (hwT : sp_wT T) (hf : st_fix S) {v t c : Nat} {xs : List sp_X} (hv : v < 312) (hv3 : 300 ≤ v) (hok : sp_ok (cs_vf S v) (cs_vn S v) (cs_vp S v) t c xs) (hm : xs.length ≤ 3) (ht : t < 4) (h5 : S.1 5 = 0) (hp : ∀ j, j < xs.length → ∀ y, cs_vp S v j = some y → y < T.length) (hl : T.length < 300) : AW G mX3_keep (d + 1) 0 0 (fun r h1 => r = .inl none ∧ ∃ S', h1 = cs_O ad S' h ∧ (st_T S' (T ++ [(t, c, xs)]) ∧ st_same 3 S S') ∧ S'.1 5 = S.1 5) 0 [(0, .ref (ad (0, 6))), (1, .ref (ad (1, v)))] [] (cs_O ad S h) 0 0 := by
  obtain ⟨Q, hQ⟩ : ∃ Q : ax_P, Q = (fun r h1 => r = .inl none ∧ ∃ S', h1 = cs_O ad S' h ∧ (st_T S' (T ++ [(t, c, xs)]) ∧ st_same 3 S S') ∧ S'.1 5 = S.1 5) := ⟨_, rfl⟩
  rw [← hQ]
  have hc : sp_cnt T t < 300 := Nat.lt_of_le_of_lt (sp_cnt_le _ _) hl
  refine ax_aload_n dX3_keep_0 rfl ?_
  refine ax_get (v := .int (nI t)) dX3_keep_1 fkX3_49 (cs_get hi (cs_k1 hv)) (congrArg (fun z => some (Value.int z)) (hok.1)) ?_
  refine ax_istore_n dX3_keep_4 (by decide) ?_
  refine ax_sub (lv' := [(0, .ref (ad (0, 6))), (1, .ref (ad (1, v))), (2, .int (nI t))]) (fun _ z => z) ?_
  refine ax_aload_n dX3_keep_5 rfl ?_
  refine ax_get (v := .int (nI T.length)) dX3_keep_6 fkX3_35 (cs_get hi (cs_k0 (by decide))) (congrArg (fun z => some (Value.int z)) (hT.1)) ?_
  refine ax_if_lt (tgt := 34) dX3_keep_9 (by decide) (fun z => absurd z (nI_pos (by omega))) (fun _ => ?_)
  refine ax_aload_n dX3_keep_12 rfl ?_
  refine ax_get (v := .int (nI T.length)) dX3_keep_13 fkX3_35 (cs_get hi (cs_k0 (by decide))) (congrArg (fun z => some (Value.int z)) (hT.1)) ?_
  refine ax_sipush (v := 300) dX3_keep_16 (by decide) ?_
  refine ax_icmp_ge (tgt := 34) dX3_keep_19 (by decide) (fun z => absurd z (il_nle 300 T.length hl)) (fun _ => ?_)
  refine ax_aload_n dX3_keep_22 rfl ?_
  refine ax_get (v := .ref (ad (0, 7))) dX3_keep_23 fkX3_17 (cs_get hi (cs_k0 (by decide))) rfl ?_
  refine ax_aload_n dX3_keep_26 rfl ?_
  refine ax_get (v := .int (nI T.length)) dX3_keep_27 fkX3_35 (cs_get hi (cs_k0 (by decide))) (congrArg (fun z => some (Value.int z)) (hT.1)) ?_
  refine ax_caald dX3_keep_30 (cs_get hi (cs_k0 (by decide))) (pk_in T.length 300 hl) (cs_rfs (w := T.length) (by rw [nI_clamp (by omega)]; exact hf.1 _ hl)) ?_
  refine ax_ifnonnull (tgt := 40) dX3_keep_31 (by decide) ?_
  refine ax_iload_n dX3_keep_40 rfl ?_
  refine ax_if_lt (tgt := 70) dX3_keep_41 (by decide) (fun z => absurd z (nI_pos (by omega))) (fun _ => ?_)
  refine ax_iload_n dX3_keep_44 rfl ?_
  refine ax_iconst (v := 4) dX3_keep_45 (by decide) ?_
  refine ax_icmp_ge (tgt := 70) dX3_keep_46 (by decide) (fun z => absurd z (il_nle 4 t ht)) (fun _ => ?_)
  refine ax_aload_n dX3_keep_49 rfl ?_
  refine ax_get (v := .ref (ad (0, 9))) dX3_keep_50 fkX3_25 (cs_get hi (cs_k0 (by decide))) rfl ?_
  refine ax_iload_n dX3_keep_53 rfl ?_
  refine ax_ialdv (x := (nI (sp_cnt T t))) dX3_keep_54 (cs_get hi (cs_k0 (by decide))) (pk_in t 4 ht) ((by rw [nI_clamp (by omega)]; exact hT.2.1 t ht)) ?_
  refine ax_if_lt (tgt := 70) dX3_keep_55 (by decide) (fun z => absurd z (nI_pos (by omega))) (fun _ => ?_)
  refine ax_aload_n dX3_keep_58 rfl ?_
  refine ax_get (v := .ref (ad (0, 9))) dX3_keep_59 fkX3_25 (cs_get hi (cs_k0 (by decide))) rfl ?_
  refine ax_iload_n dX3_keep_62 rfl ?_
  refine ax_ialdv (x := (nI (sp_cnt T t))) dX3_keep_63 (cs_get hi (cs_k0 (by decide))) (pk_in t 4 ht) ((by rw [nI_clamp (by omega)]; exact hT.2.1 t ht)) ?_
  refine ax_sipush (v := 300) dX3_keep_64 (by decide) ?_
  refine ax_icmp_lt (tgt := 71) dX3_keep_67 (by decide) (fun _ => ?_) (fun z => absurd (il_lt (sp_cnt T t) 300 hc) z)
  refine ax_aload_n dX3_keep_71 rfl ?_
  refine ax_get (v := .ref (ad (0, 7))) dX3_keep_72 fkX3_17 (cs_get hi (cs_k0 (by decide))) rfl ?_
  refine ax_aload_n dX3_keep_75 rfl ?_
  refine ax_get (v := .int (nI T.length)) dX3_keep_76 fkX3_35 (cs_get hi (cs_k0 (by decide))) (congrArg (fun z => some (Value.int z)) (hT.1)) ?_
  refine ax_caald dX3_keep_79 (cs_get hi (cs_k0 (by decide))) (pk_in T.length 300 hl) (cs_rfs (w := T.length) (by rw [nI_clamp (by omega)]; exact hf.1 _ hl)) ?_
  refine ax_astore_n dX3_keep_80 (by decide) ?_
  refine ax_sub (lv' := [(0, .ref (ad (0, 6))), (1, .ref (ad (1, v))), (2, .int (nI t)), (3, .ref (ad (1, T.length)))]) (fun _ z => z) ?_
  refine ax_aload_n dX3_keep_81 rfl ?_
  refine ax_aload_n dX3_keep_82 rfl ?_
  refine ax_callV (b := (ad (1, T.length))) (av := [.ref (ad (1, v))]) (rest := []) (mc' := 0) (ms' := 0) dX3_keep_83 rfl lkX3_145 (cs_get hi (cs_k1 (by omega))) rfl (Nat.le_of_ble_eq_true rfl) (Nat.le_of_ble_eq_true rfl) (Nat.le_refl 0) (Nat.le_refl 0) (cv_copy hi _ S h (by omega) hv (by omega) hm hok.2.2.1 (sp_nar hok).1 (sp_nar hok).2 (fun j hj y hy => ⟨by have := hp j hj y hy; omega, by have := hp j hj y hy; omega, by have := hp j hj y hy; omega⟩)) (fun E9 h9 q9 => by cases q9.1) (fun v9 h9 q9 => ?_)
  obtain ⟨e9, N, P, n1, n2, rfl⟩ := q9
  cases e9
  show AW G mX3_keep (d + 1) 0 0 Q 86 [(0, .ref (ad (0, 6))), (1, .ref (ad (1, v))), (2, .int (nI t)), (3, .ref (ad (1, T.length)))] [] (cs_O ad (cs_setV S T.length (cs_vf S v) N P) h) 0 0
  refine ax_aload_n dX3_keep_86 rfl ?_
  refine ax_aload_n dX3_keep_87 rfl ?_
  refine ax_get (v := .ref (ad (0, 9))) dX3_keep_88 fkX3_25 (cs_get hi (cs_k0 (by decide))) rfl ?_
  refine ax_iload_n dX3_keep_91 rfl ?_
  refine ax_ialdv (x := (nI (sp_cnt T t))) dX3_keep_92 (cs_get hi (cs_k0 (by decide))) (pk_in t 4 ht) ((by rw [nI_clamp (by omega)]; exact hT.2.1 t ht)) ?_
  refine ax_put dX3_keep_93 fpX3_148 (cs_get hi (cs_k1 (by omega))) rfl rfl (Nat.le_of_ble_eq_true rfl) ?_
  refine ax_eqh (cs_pv hi (by omega) (V := upd (cs_vf (cs_setV S T.length (cs_vf S v) N P) T.length) 1 (nI (sp_cnt T t)))) ?_
  refine ax_aload_n dX3_keep_96 rfl ?_
  refine ax_get (v := .ref (ad (0, 8))) dX3_keep_97 fkX3_22 (cs_get hi (cs_k0 (by decide))) rfl ?_
  refine ax_iload_n dX3_keep_100 rfl ?_
  refine ax_sipush (v := 300) dX3_keep_101 (by decide) ?_
  refine ax_imul dX3_keep_104 ?_
  refine ax_aload_n dX3_keep_105 rfl ?_
  refine ax_get (v := .ref (ad (0, 9))) dX3_keep_106 fkX3_25 (cs_get hi (cs_k0 (by decide))) rfl ?_
  refine ax_iload_n dX3_keep_109 rfl ?_
  refine ax_ialdv (x := (nI (sp_cnt T t))) dX3_keep_110 (cs_get hi (cs_k0 (by decide))) (pk_in t 4 ht) ((by rw [nI_clamp (by omega)]; exact hT.2.1 t ht)) ?_
  refine ax_iadd dX3_keep_111 ?_
  refine ax_aload_n dX3_keep_112 rfl ?_
  refine ax_aast3 dX3_keep_113 (cs_get hi (cs_k0 (by decide))) (cs_get hi (cs_k1 (by omega))) (pk_in (t * 300 + sp_cnt T t) 1200 (by omega) (by rw [show (300 : Int32) = nI 300 by decide, pk_mul, nI_add])) ?_
  refine ax_eqh (cs_pr8' hi (g := ((cs_setV S T.length (cs_vf S v) N P).2.2.1 8)) (o := some T.length)) ?_
  refine ax_aload_n dX3_keep_114 rfl ?_
  refine ax_get (v := .ref (ad (0, 9))) dX3_keep_115 fkX3_25 (cs_get hi (cs_k0 (by decide))) rfl ?_
  refine ax_iload_n dX3_keep_118 rfl ?_
  refine ax_dup2 dX3_keep_119 rfl rfl ?_
  refine ax_ialdv (x := (nI (sp_cnt T t))) dX3_keep_120 (cs_get hi (cs_k0 (by decide))) (pk_in t 4 ht) ((by rw [nI_clamp (by omega)]; exact hT.2.1 t ht)) ?_
  refine ax_iconst (v := 1) dX3_keep_121 (by decide) ?_
  refine ax_iadd dX3_keep_122 ?_
  refine ax_iast dX3_keep_123 (cs_get hi (cs_k0 (by decide))) (pk_in t 4 ht) ?_
  refine ax_eqh (cs_pa9 hi) ?_
  refine ax_aload_n dX3_keep_124 rfl ?_
  refine ax_dup dX3_keep_125 rfl ?_
  refine ax_get (v := .int (nI T.length)) dX3_keep_126 fkX3_35 (cs_get hi (cs_k0 (by decide))) (congrArg (fun z => some (Value.int z)) (hT.1)) ?_
  refine ax_iconst (v := 1) dX3_keep_129 (by decide) ?_
  refine ax_iadd dX3_keep_130 ?_
  refine ax_put dX3_keep_131 fpX3_35 (cs_get hi (cs_k0 (by decide))) rfl rfl (Nat.le_of_ble_eq_true rfl) ?_
  refine ax_eqh (cs_ps4 hi) ?_
  refine ax_vret (st := []) dX3_keep_134 rfl ?_
  rw [hQ]
  refine ⟨rfl, _, rfl, st_keep hT hl ht hok (fun i z => ?_) (nI_1 _) (fun i z => ?_) ?_ (fun i z => ?_) ?_ (fun w9 z => ?_) ?_ (fun j z => ?_) rfl hwT, rfl⟩
  · exact pk_un z
  · exact if_neg z
  · show upd (S.2.1 9) (nI t).toNatClampNeg (nI (sp_cnt T t) + 1) = _
    rw [nI_clamp (by omega), nI_1]
  · exact if_neg z
  · show va_up (S.2.2.1 8) (nI t * 300 + nI (sp_cnt T t)).toNatClampNeg (some T.length) = _
    rw [show (300 : Int32) = nI 300 by decide, pk_mul, nI_add, nI_clamp (by omega)]
  · simp [cs_vf, cs_vn, cs_vp, cs_setS, cs_setA, cs_setR, cs_setV, va_up, z]
  · simp [cs_vf, cs_setS, cs_setA, cs_setR, cs_setV, va_up]
  · simp [cs_vn, cs_vp, cs_setS, cs_setA, cs_setR, cs_setV, va_up]
    exact n1 j z
/-- a value kept: the table grows by it, or there is one too many -/
theorem ch_keep {G : ax_G} {ad : cs_K → Nat} (hi : cs_inj ad) (d : Nat) (S : cs_S) (h : ax_H) {T : List sp_E} (hT : st_T S T) (hwT : sp_wT T) (hf : st_fix S) {v t c : Nat} {xs : List sp_X} (hv : v < 312) (hv3 : 300 ≤ v) (hok : sp_ok (cs_vf S v) (cs_vn S v) (cs_vp S v) t c xs) (hm : xs.length ≤ 3) (ht : t < 4) (h5 : S.1 5 = 0) (hp : ∀ j, j < xs.length → ∀ y, cs_vp S v j = some y → y < T.length) : AW G mX3_keep (d + 1) 0 0 (fun r h1 => r = .inl none ∧ ∃ S', h1 = cs_O ad S' h ∧ st_T S' (sp_push (T, false) (t, c, xs)).1 ∧ st_same 3 S S' ∧ S'.1 5 = (if (sp_push (T, false) (t, c, xs)).2 then 1 else 0)) 0 [(0, .ref (ad (0, 6))), (1, .ref (ad (1, v)))] [] (cs_O ad S h) 0 0 := by
  by_cases hl : T.length = 300
  · refine ax_mono (ch_keepF hi (d + 1) S h hT hwT hf hv hv3 hok hm ht h5 hp hl) ?_
    rintro r h1 ⟨e, S', rfl, rfl⟩
    refine ⟨e, _, rfl, ?_, ?_, ?_⟩
    · simp [sp_push, hl]
      exact ⟨hT.1, hT.2.1, hT.2.2⟩
    · exact ⟨fun i _ z => pk_un z, fun _ _ => rfl, fun _ _ => rfl, fun _ _ _ => ⟨rfl, rfl, rfl⟩, rfl⟩
    · simp [sp_push, hl]; rfl
  · have hl2 : T.length < 300 := by have := hwT.1; omega
    refine ax_mono (ch_keepR hi d S h hT hwT hf hv hv3 hok hm ht h5 hp hl2) ?_
    rintro r h1 ⟨e, S', rfl, ⟨a1, a2⟩, a3⟩
    refine ⟨e, S', rfl, ?_, a2, ?_⟩
    · simp [sp_push, hl]; exact a1
    · simp [sp_push, hl]; rw [a3, h5]
