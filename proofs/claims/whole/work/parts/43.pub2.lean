/-! ===== public methods, on the table ===== -/
section PUB2
variable {G : ax_G} {ad : cs_K → Nat}
theorem fin_at {g : sp_G} {p : List sp_E × Nat} {S : cs_S} (hf : st_fin g p S) {t r w : Nat} (hr : (sp_of p.1 t)[r]? = some w) : ∃ e, p.1[w]? = some e ∧ e.1 = t ∧ w < 300 ∧ t < 4 ∧ r < sp_cnt p.1 t ∧ sp_cnt p.1 t ≤ 300 ∧ S.2.2.1 8 (t * 300 + r) = some w ∧ sp_ok (cs_vf S w) (cs_vn S w) (cs_vp S w) t e.2.1 e.2.2 ∧ cs_vf S w 1 = nI r := by
  obtain ⟨e, f1, f2, f3⟩ := sp_of_at hr
  have hw : sp_wT p.1 := hf.2.2.2.1
  have hT1 := hw.1
  have hvl : w < p.1.length := (List.getElem?_eq_some_iff.mp f1).1
  obtain ⟨w1, -⟩ := hw.2 w e f1
  obtain ⟨k1, k2, k3⟩ := hf.2.2.1.2 w e f1
  have hc := sp_cnt_le p.1 t
  have hl := (List.getElem?_eq_some_iff.mp hr).1
  rw [sp_of_len] at hl
  rw [f2] at k1 k2 k3 w1
  rw [f3] at k2 k3
  exact ⟨e, f1, f2, by omega, w1, hl, by omega, k3, k1, k2⟩
theorem ch_vat (hi : cs_inj ad) (d : Nat) (S : cs_S) (h : ax_H) {g : sp_G} {p : List sp_E × Nat} (hf : st_fin g p S) {t r w : Nat} (hr : (sp_of p.1 t)[r]? = some w) : AW G mX3_valueAt d 0 0 (fun r h1 => r = .inl (some (.ref (ad (1, w)))) ∧ h1 = cs_O ad S h) 0 [(0, .ref (ad (0, 6))), (1, .int (nI t)), (2, .int (nI r))] [] (cs_O ad S h) 0 0 := by
  obtain ⟨e, f1, f2, f3, f4, f5, f6, f7, -⟩ := fin_at hf hr
  exact cv_valueAt hi d S h f4 (by omega) (hf.2.2.1.1 t f4) f5 f6 f7
theorem ch_vatN (hi : cs_inj ad) (d : Nat) (S : cs_S) (h : ax_H) {g : sp_G} {p : List sp_E × Nat} (hf : st_fin g p S) {t : Nat} {z : Int32} (ht : t < 4) (hz : z < 0 ∨ nI (sp_cnt p.1 t) ≤ z) : AW G mX3_valueAt d 0 0 (fun r h1 => r = .inl (some .null) ∧ h1 = cs_O ad S h) 0 [(0, .ref (ad (0, 6))), (1, .int (nI t)), (2, .int z)] [] (cs_O ad S h) 0 0 := by
  refine ax_mono (cv_valueAt0 hi d S h (nI t) z) ?_
  rintro r h1 ⟨e, e2⟩
  refine ⟨e.trans ?_, e2⟩
  rw [if_neg (nI_pos (by omega)), if_neg (il_nle 4 t ht), nI_clamp (by omega), hf.2.2.1.1 t ht]
  rcases hz with z0 | z1
  · rw [if_pos z0]; rfl
  · by_cases z0 : z < 0
    · rw [if_pos z0]; rfl
    · rw [if_neg z0]
      by_cases z3 : (300 : Int32) ≤ z
      · rw [if_pos z3]; rfl
      · rw [if_neg z3, if_neg (i_le_not z1)]; rfl
theorem ch_up (hi : cs_inj ad) (d : Nat) (S : cs_S) (h : ax_H) {g : sp_G} {p : List sp_E × Nat} (hf : st_fin g p S) {t z : Nat} (ht : t < 4) (hz : z ≤ p.2) : AW G mX3_upTo d 0 0 (fun r h1 => r = .inl (some (.int (nI (sp_upto p.1 t z)))) ∧ h1 = cs_O ad S h) 0 [(0, .ref (ad (0, 6))), (1, .int (nI t)), (2, .int (nI z))] [] (cs_O ad S h) 0 0 := by
  have h8 := hf.2.2.2.2.2.2.2.1
  refine ax_mono (cv_upTo hi d S h ht (by omega)) ?_
  rintro r h1 ⟨e, e2⟩
  exact ⟨e.trans (by rw [hf.2.2.2.2.2.2.1 t z ht hz]), e2⟩
theorem ch_cl (hi : cs_inj ad) (d : Nat) (S : cs_S) (h : ax_H) {v t c : Nat} {xs : List sp_X} (hv : v < 312) (hok : sp_ok (cs_vf S v) (cs_vn S v) (cs_vp S v) t c xs) : AW G mX5_codeLength d 0 0 (fun r h1 => r = .inl (some (.int (nI (1 + sp_size xs + (sp_ints xs).length)))) ∧ h1 = cs_O ad S h) 0 [(0, .ref (ad (1, v)))] [] (cs_O ad S h) 0 0 := by
  have hks : ∀ k ∈ ([(1, v)] : List cs_K), k ∈ cs_keys := fun k hk => by simp at hk; subst hk; exact cs_k1 hv
  refine ax_eqh (cs_in hi (ks := [(1, v)]) hks).symm ?_
  refine ax_mono (ctX5_codeLength d (cs_O ad S h) (ad (1, v)) (ad (2, v)) (ad (3, v)) (cs_vf S v) (by simp)) ?_
  rintro r h1 ⟨e, rfl⟩
  refine ⟨e.trans ?_, cs_in hi hks⟩
  rw [hok.2.2.2.1, hok.2.2.2.2.2.2.2.1, nI_add]
/-- the selected value's own cells -/
theorem sel_ok {σ : sp_St} {S : cs_S} (hC : CI σ S) {v : Nat} (hs : σ.2.2 = some v) : S.2.2.2.2.2.2 = some v ∧ st_fin σ.1 (sp_tab σ.1) S ∧ v < 300 ∧ ∃ e, (po_T σ)[v]? = some e ∧ sp_xo (po_T σ) v = e.2.2 ∧ sp_rk (po_T σ) v = sp_cnt ((po_T σ).take v) e.1 ∧ sp_ok (cs_vf S v) (cs_vn S v) (cs_vp S v) e.1 e.2.1 e.2.2 ∧ cs_vf S v 1 = nI (sp_rk (po_T σ) v) ∧ sp_g e.2.2 ∧ e.1 < 4 ∧ (sp_cd (po_T σ) v).length = 1 + sp_size e.2.2 + (sp_ints e.2.2).length ∧ (sp_ints e.2.2).length ≤ 24 ∧ 1 + sp_size e.2.2 ≤ 8 := by
  obtain ⟨hf, e, he⟩ := CI_fin hC hs
  have hw : sp_wT (po_T σ) := hf.2.2.2.1
  have hl := hw.1
  have hv := (List.getElem?_eq_some_iff.mp he).1
  obtain ⟨k1, k2, k3⟩ := hf.2.2.1.2 v e he
  have hrk : sp_rk (po_T σ) v = sp_cnt ((po_T σ).take v) e.1 := by unfold sp_rk; rw [he]
  obtain ⟨w1, w2, w3, w4, w5, w6, -⟩ := hw.2 v e he
  refine ⟨hC.2.2.2.2.2.2.1.trans hs, hf, by omega, e, he, by unfold sp_xo; rw [he], hrk, k1, by rw [hrk]; exact k2, sp_wT_g hw he, w1, sp_cd_len hw v e he, by omega, w3⟩

set_option maxRecDepth 100000 in
set_option maxHeartbeats 4000000 in
theorem pb_count (hi : cs_inj ad) (d : Nat) (S : cs_S) (h : ax_H) {σ : sp_St} (hC : CI σ S) (t : Int32) (s : Int32) : AW G mX6_count (d + 16) 1 6 (pb_Q ad h (pb_nm ["java/lang/IndexOutOfBoundsException", "java/lang/IllegalArgumentException", "java/lang/IllegalStateException"]) (po_count σ t s)) 0 [(0, .ref (ad (0, 0))), (1, .int t), (2, .int s)] [] (cs_O ad S h) 0 0 := by
  cases hk1 : po_isT σ t with
  | false =>
    rw [show po_count σ t s = ((1, _), σ) from congrArg (fun z => ((z, _), σ)) (if_pos hk1)]
    refine ax_aload_n dX6_count_0 rfl ?_
    refine ax_iload_n dX6_count_1 rfl ?_
    refine ax_callV (b := (ad (0, 0))) (av := [.int t]) (rest := []) (mc' := 1) (ms' := 6) dX6_count_2 rfl lkX6_75 (cs_get hi (cs_k0 (by decide))) rfl (Nat.le_of_ble_eq_true rfl) (Nat.le_of_ble_eq_true rfl) (by decide) (by decide) (rq_typeN hi _ S h hC hk1) (fun E9 h9 q9 => by obtain ⟨e9, rfl⟩ := q9; cases e9; exact ⟨rfl, _, rfl, hC⟩) (fun v9 h9 q9 => ?_)
    cases q9.1
  | true =>
    by_cases hk2 : s < 1 ∨ 8 < s
    · rw [show po_count σ t s = ((2, _), σ) from congrArg (fun z => ((z, _), σ)) ((if_neg (by rw [hk1]; decide)).trans (if_pos hk2))]
      refine ax_aload_n dX6_count_0 rfl ?_
      refine ax_iload_n dX6_count_1 rfl ?_
      refine ax_callV (b := (ad (0, 0))) (av := [.int t]) (rest := []) (mc' := 0) (ms' := 0) dX6_count_2 rfl lkX6_75 (cs_get hi (cs_k0 (by decide))) rfl (Nat.le_of_ble_eq_true rfl) (Nat.le_of_ble_eq_true rfl) (by decide) (by decide) (rq_typeY hi _ S h hC hk1) (fun E9 h9 q9 => by cases q9.1) (fun v9 h9 q9 => ?_)
      obtain ⟨e9, rfl⟩ := q9
      cases e9
      show AW G mX6_count (d + 16) 1 6 _ 5 [(0, .ref (ad (0, 0))), (1, .int t), (2, .int s)] [] (cs_O ad S h) 0 0
      refine ax_aload_n dX6_count_5 rfl ?_
      refine ax_iload_n dX6_count_6 rfl ?_
      refine ax_callV (b := (ad (0, 0))) (av := [.int s]) (rest := []) (mc' := 1) (ms' := 6) dX6_count_7 rfl lkX6_102 (cs_get hi (cs_k0 (by decide))) rfl (Nat.le_of_ble_eq_true rfl) (Nat.le_of_ble_eq_true rfl) (by decide) (by decide) (rq_sizeN _ S h hk2) (fun E9 h9 q9 => by obtain ⟨e9, rfl⟩ := q9; cases e9; exact ⟨rfl, _, rfl, hC⟩) (fun v9 h9 q9 => ?_)
      cases q9.1
    · by_cases hk3 : nI (po_H σ) < s
      · rw [show po_count σ t s = ((3, _), σ) from congrArg (fun z => ((z, _), σ)) ((if_neg (by rw [hk1]; decide)).trans ((if_neg hk2).trans (if_pos hk3)))]
        refine ax_aload_n dX6_count_0 rfl ?_
        refine ax_iload_n dX6_count_1 rfl ?_
        refine ax_callV (b := (ad (0, 0))) (av := [.int t]) (rest := []) (mc' := 0) (ms' := 0) dX6_count_2 rfl lkX6_75 (cs_get hi (cs_k0 (by decide))) rfl (Nat.le_of_ble_eq_true rfl) (Nat.le_of_ble_eq_true rfl) (by decide) (by decide) (rq_typeY hi _ S h hC hk1) (fun E9 h9 q9 => by cases q9.1) (fun v9 h9 q9 => ?_)
        obtain ⟨e9, rfl⟩ := q9
        cases e9
        show AW G mX6_count (d + 16) 1 6 _ 5 [(0, .ref (ad (0, 0))), (1, .int t), (2, .int s)] [] (cs_O ad S h) 0 0
        refine ax_aload_n dX6_count_5 rfl ?_
        refine ax_iload_n dX6_count_6 rfl ?_
        refine ax_callV (b := (ad (0, 0))) (av := [.int s]) (rest := []) (mc' := 0) (ms' := 0) dX6_count_7 rfl lkX6_102 (cs_get hi (cs_k0 (by decide))) rfl (Nat.le_of_ble_eq_true rfl) (Nat.le_of_ble_eq_true rfl) (by decide) (by decide) (rq_sizeY _ S h hk2) (fun E9 h9 q9 => by cases q9.1) (fun v9 h9 q9 => ?_)
        obtain ⟨e9, rfl⟩ := q9
        cases e9
        show AW G mX6_count (d + 16) 1 6 _ 10 [(0, .ref (ad (0, 0))), (1, .int t), (2, .int s)] [] (cs_O ad S h) 0 0
        refine ax_aload_n dX6_count_10 rfl ?_
        refine ax_iload_n dX6_count_11 rfl ?_
        refine ax_callV (b := (ad (0, 0))) (av := [.int s]) (rest := []) (mc' := 1) (ms' := 6) dX6_count_12 rfl lkX6_105 (cs_get hi (cs_k0 (by decide))) rfl (Nat.le_of_ble_eq_true rfl) (Nat.le_of_ble_eq_true rfl) (by decide) (by decide) (rq_knownN hi _ S h hC hk3 (Q := fun r h1 => r = .inr "java/lang/IllegalStateException" ∧ ∃ S', h1 = cs_O ad S' h ∧ CI σ S') (fun S' a => ⟨rfl, S', rfl, a⟩)) (fun E9 h9 q9 => by obtain ⟨e9, S1, rfl, o1⟩ := q9; cases e9; exact ⟨rfl, S1, rfl, o1⟩) (fun v9 h9 q9 => ?_)
        cases q9.1
      · rw [show po_count σ t s = ((0, _), σ) from congrArg (fun z => ((z, _), σ)) ((if_neg (by rw [hk1]; decide)).trans ((if_neg hk2).trans (if_neg hk3)))]
        obtain ⟨t, rfl, -, ht4⟩ := po_isT_nat hC.1 hk1
        obtain ⟨z, rfl, hz1, hz8⟩ := i_rng hk2
        obtain ⟨z, rfl⟩ : ∃ k, z = k + 1 := ⟨z - 1, by omega⟩
        have hzh : z + 1 ≤ po_H σ := by
          have := i_not_le hk3
          by_cases hb : po_H σ < 2 ^ 31
          · exact (nI_leI (by omega) hb).mp this
          · omega
        refine ax_aload_n dX6_count_0 rfl ?_
        refine ax_iload_n dX6_count_1 rfl ?_
        refine ax_callV (b := (ad (0, 0))) (av := [.int (nI t)]) (rest := []) (mc' := 0) (ms' := 0) dX6_count_2 rfl lkX6_75 (cs_get hi (cs_k0 (by decide))) rfl (Nat.le_of_ble_eq_true rfl) (Nat.le_of_ble_eq_true rfl) (by decide) (by decide) (rq_typeY hi _ S h hC hk1) (fun E9 h9 q9 => by cases q9.1) (fun v9 h9 q9 => ?_)
        obtain ⟨e9, rfl⟩ := q9
        cases e9
        show AW G mX6_count (d + 16) 1 6 _ 5 [(0, .ref (ad (0, 0))), (1, .int (nI t)), (2, .int (nI (z + 1)))] [] (cs_O ad S h) 0 0
        refine ax_aload_n dX6_count_5 rfl ?_
        refine ax_iload_n dX6_count_6 rfl ?_
        refine ax_callV (b := (ad (0, 0))) (av := [.int (nI (z + 1))]) (rest := []) (mc' := 0) (ms' := 0) dX6_count_7 rfl lkX6_102 (cs_get hi (cs_k0 (by decide))) rfl (Nat.le_of_ble_eq_true rfl) (Nat.le_of_ble_eq_true rfl) (by decide) (by decide) (rq_sizeY _ S h hk2) (fun E9 h9 q9 => by cases q9.1) (fun v9 h9 q9 => ?_)
        obtain ⟨e9, rfl⟩ := q9
        cases e9
        show AW G mX6_count (d + 16) 1 6 _ 10 [(0, .ref (ad (0, 0))), (1, .int (nI t)), (2, .int (nI (z + 1)))] [] (cs_O ad S h) 0 0
        refine ax_aload_n dX6_count_10 rfl ?_
        refine ax_iload_n dX6_count_11 rfl ?_
        refine ax_callV (b := (ad (0, 0))) (av := [.int (nI (z + 1))]) (rest := []) (mc' := 0) (ms' := 0) dX6_count_12 rfl lkX6_105 (cs_get hi (cs_k0 (by decide))) rfl (Nat.le_of_ble_eq_true rfl) (Nat.le_of_ble_eq_true rfl) (by decide) (by decide) (rq_knownY hi _ S h hC hk3 (Q := fun r h1 => r = .inl none ∧ ∃ S', h1 = cs_O ad S' h ∧ CI σ S' ∧ st_fin σ.1 (sp_tab σ.1) S') (fun S' a b => ⟨rfl, S', rfl, a, b⟩)) (fun E9 h9 q9 => by cases q9.1) (fun v9 h9 q9 => ?_)
        obtain ⟨e9, S1, rfl, o1, o2⟩ := q9
        cases e9
        show AW G mX6_count (d + 16) 1 6 _ 15 [(0, .ref (ad (0, 0))), (1, .int (nI t)), (2, .int (nI (z + 1)))] [] (cs_O ad S1 h) 0 0
        refine ax_aload_n dX6_count_15 rfl ?_
        refine ax_get (v := .ref (ad (0, 6))) dX6_count_16 fkX6_21 (cs_get hi (cs_k0 (by decide))) rfl ?_
        refine ax_iload_n dX6_count_19 rfl ?_
        refine ax_iload_n dX6_count_20 rfl ?_
        refine ax_callV (b := (ad (0, 6))) (av := [.int (nI t), .int (nI (z + 1))]) (rest := []) (mc' := 0) (ms' := 0) dX6_count_21 rfl lkX6_108 (cs_get hi (cs_k0 (by decide))) rfl (Nat.le_of_ble_eq_true rfl) (Nat.le_of_ble_eq_true rfl) (by decide) (by decide) (ch_up hi _ S1 h o2 ht4 (z := z + 1) (by show _ ≤ po_H σ; omega)) (fun E9 h9 q9 => by cases q9.1) (fun v9 h9 q9 => ?_)
        obtain ⟨e9, rfl⟩ := q9
        cases e9
        show AW G mX6_count (d + 16) 1 6 _ 24 [(0, .ref (ad (0, 0))), (1, .int (nI t)), (2, .int (nI (z + 1)))] [.int (nI (sp_upto (po_T σ) t (z + 1)))] (cs_O ad S1 h) 0 0
        refine ax_aload_n dX6_count_24 rfl ?_
        refine ax_get (v := .ref (ad (0, 6))) dX6_count_25 fkX6_21 (cs_get hi (cs_k0 (by decide))) rfl ?_
        refine ax_iload_n dX6_count_28 rfl ?_
        refine ax_iload_n dX6_count_29 rfl ?_
        refine ax_iconst (v := 1) dX6_count_30 (by decide) ?_
        refine ax_isub dX6_count_31 ?_
        refine ax_top (y := (nI z)) (nI_pred z) ?_
        refine ax_callV (b := (ad (0, 6))) (av := [.int (nI t), .int (nI z)]) (rest := [.int (nI (sp_upto (po_T σ) t (z + 1)))]) (mc' := 0) (ms' := 0) dX6_count_32 rfl lkX6_108 (cs_get hi (cs_k0 (by decide))) rfl (Nat.le_of_ble_eq_true rfl) (Nat.le_of_ble_eq_true rfl) (by decide) (by decide) (ch_up hi _ S1 h o2 ht4 (z := z) (by show _ ≤ po_H σ; omega)) (fun E9 h9 q9 => by cases q9.1) (fun v9 h9 q9 => ?_)
        obtain ⟨e9, rfl⟩ := q9
        cases e9
        show AW G mX6_count (d + 16) 1 6 _ 35 [(0, .ref (ad (0, 0))), (1, .int (nI t)), (2, .int (nI (z + 1)))] [.int (nI (sp_upto (po_T σ) t (z))), .int (nI (sp_upto (po_T σ) t (z + 1)))] (cs_O ad S1 h) 0 0
        refine ax_isub dX6_count_35 ?_
        exact ax_iret (st := []) dX6_count_36 rfl rfl ⟨by rw [pk_sub (sp_upto_mono _ _ (by omega))]; show _ = Sum.inl (some (Value.int (nI (sp_upto (po_T σ) (nI t).toNatClampNeg (nI (z + 1)).toNatClampNeg - sp_upto (po_T σ) (nI t).toNatClampNeg ((nI (z + 1)).toNatClampNeg - 1))))); rw [nI_clamp (by omega), nI_clamp (by omega)]; rfl, S1, rfl, o1⟩
set_option maxRecDepth 100000 in
set_option maxHeartbeats 4000000 in
theorem pb_total (hi : cs_inj ad) (d : Nat) (S : cs_S) (h : ax_H) {σ : sp_St} (hC : CI σ S) (t : Int32) (s : Int32) : AW G mX6_total (d + 16) 1 6 (pb_Q ad h (pb_nm ["java/lang/IndexOutOfBoundsException", "java/lang/IllegalArgumentException", "java/lang/IllegalStateException"]) (po_total σ t s)) 0 [(0, .ref (ad (0, 0))), (1, .int t), (2, .int s)] [] (cs_O ad S h) 0 0 := by
  cases hk1 : po_isT σ t with
  | false =>
    rw [show po_total σ t s = ((1, _), σ) from congrArg (fun z => ((z, _), σ)) (if_pos hk1)]
    refine ax_aload_n dX6_total_0 rfl ?_
    refine ax_iload_n dX6_total_1 rfl ?_
    refine ax_callV (b := (ad (0, 0))) (av := [.int t]) (rest := []) (mc' := 1) (ms' := 6) dX6_total_2 rfl lkX6_75 (cs_get hi (cs_k0 (by decide))) rfl (Nat.le_of_ble_eq_true rfl) (Nat.le_of_ble_eq_true rfl) (by decide) (by decide) (rq_typeN hi _ S h hC hk1) (fun E9 h9 q9 => by obtain ⟨e9, rfl⟩ := q9; cases e9; exact ⟨rfl, _, rfl, hC⟩) (fun v9 h9 q9 => ?_)
    cases q9.1
  | true =>
    by_cases hk2 : s < 1 ∨ 8 < s
    · rw [show po_total σ t s = ((2, _), σ) from congrArg (fun z => ((z, _), σ)) ((if_neg (by rw [hk1]; decide)).trans (if_pos hk2))]
      refine ax_aload_n dX6_total_0 rfl ?_
      refine ax_iload_n dX6_total_1 rfl ?_
      refine ax_callV (b := (ad (0, 0))) (av := [.int t]) (rest := []) (mc' := 0) (ms' := 0) dX6_total_2 rfl lkX6_75 (cs_get hi (cs_k0 (by decide))) rfl (Nat.le_of_ble_eq_true rfl) (Nat.le_of_ble_eq_true rfl) (by decide) (by decide) (rq_typeY hi _ S h hC hk1) (fun E9 h9 q9 => by cases q9.1) (fun v9 h9 q9 => ?_)
      obtain ⟨e9, rfl⟩ := q9
      cases e9
      show AW G mX6_total (d + 16) 1 6 _ 5 [(0, .ref (ad (0, 0))), (1, .int t), (2, .int s)] [] (cs_O ad S h) 0 0
      refine ax_aload_n dX6_total_5 rfl ?_
      refine ax_iload_n dX6_total_6 rfl ?_
      refine ax_callV (b := (ad (0, 0))) (av := [.int s]) (rest := []) (mc' := 1) (ms' := 6) dX6_total_7 rfl lkX6_102 (cs_get hi (cs_k0 (by decide))) rfl (Nat.le_of_ble_eq_true rfl) (Nat.le_of_ble_eq_true rfl) (by decide) (by decide) (rq_sizeN _ S h hk2) (fun E9 h9 q9 => by obtain ⟨e9, rfl⟩ := q9; cases e9; exact ⟨rfl, _, rfl, hC⟩) (fun v9 h9 q9 => ?_)
      cases q9.1
    · by_cases hk3 : nI (po_H σ) < s
      · rw [show po_total σ t s = ((3, _), σ) from congrArg (fun z => ((z, _), σ)) ((if_neg (by rw [hk1]; decide)).trans ((if_neg hk2).trans (if_pos hk3)))]
        refine ax_aload_n dX6_total_0 rfl ?_
        refine ax_iload_n dX6_total_1 rfl ?_
        refine ax_callV (b := (ad (0, 0))) (av := [.int t]) (rest := []) (mc' := 0) (ms' := 0) dX6_total_2 rfl lkX6_75 (cs_get hi (cs_k0 (by decide))) rfl (Nat.le_of_ble_eq_true rfl) (Nat.le_of_ble_eq_true rfl) (by decide) (by decide) (rq_typeY hi _ S h hC hk1) (fun E9 h9 q9 => by cases q9.1) (fun v9 h9 q9 => ?_)
        obtain ⟨e9, rfl⟩ := q9
        cases e9
        show AW G mX6_total (d + 16) 1 6 _ 5 [(0, .ref (ad (0, 0))), (1, .int t), (2, .int s)] [] (cs_O ad S h) 0 0
        refine ax_aload_n dX6_total_5 rfl ?_
        refine ax_iload_n dX6_total_6 rfl ?_
        refine ax_callV (b := (ad (0, 0))) (av := [.int s]) (rest := []) (mc' := 0) (ms' := 0) dX6_total_7 rfl lkX6_102 (cs_get hi (cs_k0 (by decide))) rfl (Nat.le_of_ble_eq_true rfl) (Nat.le_of_ble_eq_true rfl) (by decide) (by decide) (rq_sizeY _ S h hk2) (fun E9 h9 q9 => by cases q9.1) (fun v9 h9 q9 => ?_)
        obtain ⟨e9, rfl⟩ := q9
        cases e9
        show AW G mX6_total (d + 16) 1 6 _ 10 [(0, .ref (ad (0, 0))), (1, .int t), (2, .int s)] [] (cs_O ad S h) 0 0
        refine ax_aload_n dX6_total_10 rfl ?_
        refine ax_iload_n dX6_total_11 rfl ?_
        refine ax_callV (b := (ad (0, 0))) (av := [.int s]) (rest := []) (mc' := 1) (ms' := 6) dX6_total_12 rfl lkX6_105 (cs_get hi (cs_k0 (by decide))) rfl (Nat.le_of_ble_eq_true rfl) (Nat.le_of_ble_eq_true rfl) (by decide) (by decide) (rq_knownN hi _ S h hC hk3 (Q := fun r h1 => r = .inr "java/lang/IllegalStateException" ∧ ∃ S', h1 = cs_O ad S' h ∧ CI σ S') (fun S' a => ⟨rfl, S', rfl, a⟩)) (fun E9 h9 q9 => by obtain ⟨e9, S1, rfl, o1⟩ := q9; cases e9; exact ⟨rfl, S1, rfl, o1⟩) (fun v9 h9 q9 => ?_)
        cases q9.1
      · rw [show po_total σ t s = ((0, _), σ) from congrArg (fun z => ((z, _), σ)) ((if_neg (by rw [hk1]; decide)).trans ((if_neg hk2).trans (if_neg hk3)))]
        obtain ⟨t, rfl, -, ht4⟩ := po_isT_nat hC.1 hk1
        obtain ⟨z, rfl, hz1, hz8⟩ := i_rng hk2
        obtain ⟨z, rfl⟩ : ∃ k, z = k + 1 := ⟨z - 1, by omega⟩
        have hzh : z + 1 ≤ po_H σ := by
          have := i_not_le hk3
          by_cases hb : po_H σ < 2 ^ 31
          · exact (nI_leI (by omega) hb).mp this
          · omega
        refine ax_aload_n dX6_total_0 rfl ?_
        refine ax_iload_n dX6_total_1 rfl ?_
        refine ax_callV (b := (ad (0, 0))) (av := [.int (nI t)]) (rest := []) (mc' := 0) (ms' := 0) dX6_total_2 rfl lkX6_75 (cs_get hi (cs_k0 (by decide))) rfl (Nat.le_of_ble_eq_true rfl) (Nat.le_of_ble_eq_true rfl) (by decide) (by decide) (rq_typeY hi _ S h hC hk1) (fun E9 h9 q9 => by cases q9.1) (fun v9 h9 q9 => ?_)
        obtain ⟨e9, rfl⟩ := q9
        cases e9
        show AW G mX6_total (d + 16) 1 6 _ 5 [(0, .ref (ad (0, 0))), (1, .int (nI t)), (2, .int (nI (z + 1)))] [] (cs_O ad S h) 0 0
        refine ax_aload_n dX6_total_5 rfl ?_
        refine ax_iload_n dX6_total_6 rfl ?_
        refine ax_callV (b := (ad (0, 0))) (av := [.int (nI (z + 1))]) (rest := []) (mc' := 0) (ms' := 0) dX6_total_7 rfl lkX6_102 (cs_get hi (cs_k0 (by decide))) rfl (Nat.le_of_ble_eq_true rfl) (Nat.le_of_ble_eq_true rfl) (by decide) (by decide) (rq_sizeY _ S h hk2) (fun E9 h9 q9 => by cases q9.1) (fun v9 h9 q9 => ?_)
        obtain ⟨e9, rfl⟩ := q9
        cases e9
        show AW G mX6_total (d + 16) 1 6 _ 10 [(0, .ref (ad (0, 0))), (1, .int (nI t)), (2, .int (nI (z + 1)))] [] (cs_O ad S h) 0 0
        refine ax_aload_n dX6_total_10 rfl ?_
        refine ax_iload_n dX6_total_11 rfl ?_
        refine ax_callV (b := (ad (0, 0))) (av := [.int (nI (z + 1))]) (rest := []) (mc' := 0) (ms' := 0) dX6_total_12 rfl lkX6_105 (cs_get hi (cs_k0 (by decide))) rfl (Nat.le_of_ble_eq_true rfl) (Nat.le_of_ble_eq_true rfl) (by decide) (by decide) (rq_knownY hi _ S h hC hk3 (Q := fun r h1 => r = .inl none ∧ ∃ S', h1 = cs_O ad S' h ∧ CI σ S' ∧ st_fin σ.1 (sp_tab σ.1) S') (fun S' a b => ⟨rfl, S', rfl, a, b⟩)) (fun E9 h9 q9 => by cases q9.1) (fun v9 h9 q9 => ?_)
        obtain ⟨e9, S1, rfl, o1, o2⟩ := q9
        cases e9
        show AW G mX6_total (d + 16) 1 6 _ 15 [(0, .ref (ad (0, 0))), (1, .int (nI t)), (2, .int (nI (z + 1)))] [] (cs_O ad S1 h) 0 0
        refine ax_aload_n dX6_total_15 rfl ?_
        refine ax_get (v := .ref (ad (0, 6))) dX6_total_16 fkX6_21 (cs_get hi (cs_k0 (by decide))) rfl ?_
        refine ax_iload_n dX6_total_19 rfl ?_
        refine ax_iload_n dX6_total_20 rfl ?_
        refine ax_callV (b := (ad (0, 6))) (av := [.int (nI t), .int (nI (z + 1))]) (rest := []) (mc' := 0) (ms' := 0) dX6_total_21 rfl lkX6_108 (cs_get hi (cs_k0 (by decide))) rfl (Nat.le_of_ble_eq_true rfl) (Nat.le_of_ble_eq_true rfl) (by decide) (by decide) (ch_up hi _ S1 h o2 ht4 (z := z + 1) (by show _ ≤ po_H σ; omega)) (fun E9 h9 q9 => by cases q9.1) (fun v9 h9 q9 => ?_)
        obtain ⟨e9, rfl⟩ := q9
        cases e9
        show AW G mX6_total (d + 16) 1 6 _ 24 [(0, .ref (ad (0, 0))), (1, .int (nI t)), (2, .int (nI (z + 1)))] [.int (nI (sp_upto (po_T σ) t (z + 1)))] (cs_O ad S1 h) 0 0
        exact ax_iret (st := []) dX6_total_24 rfl rfl ⟨by show _ = Sum.inl (some (Value.int (nI (sp_upto (po_T σ) (nI t).toNatClampNeg (nI (z + 1)).toNatClampNeg)))); rw [nI_clamp (by omega), nI_clamp (by omega)], S1, rfl, o1⟩
set_option maxRecDepth 100000 in
set_option maxHeartbeats 4000000 in
theorem fa_turn (hi : cs_inj ad) (d : Nat) (S : cs_S) (h : ax_H) {g : sp_G} {P : List sp_E × Nat} (hf : st_fin g P S) {t p z n r w : Nat} {e : sp_E} (hp5 : p ≤ 5) (hn : n ≤ 300) (hr : r < n) (hw : (sp_of P.1 t)[r]? = some w) (hw3 : w < 300) (hok : sp_ok (cs_vf S w) (cs_vn S w) (cs_vp S w) t e.2.1 e.2.2) (hgx : sp_g e.2.2) {Q : ax_P} (hq : sp_cond p e.2.2 = false → Q (.inl (some (.int (nI r)))) (cs_O ad S h)) (kk : sp_cond p e.2.2 = true → AW G mX6_firstAgainst (d + 16) 1 6 Q 34 [(0, .ref (ad (0, 0))), (1, .int (nI t)), (2, .int (nI p)), (3, .int (nI z)), (4, .int (nI n)), (5, .int (nI (r + 1)))] [] (cs_O ad S h) 0 0) : AW G mX6_firstAgainst (d + 16) 1 6 Q 34 [(0, .ref (ad (0, 0))), (1, .int (nI t)), (2, .int (nI p)), (3, .int (nI z)), (4, .int (nI n)), (5, .int (nI r))] [] (cs_O ad S h) 0 0 := by
  cases hc : sp_cond p e.2.2 with
  | false =>
    have hq := hq hc
    refine ax_iload dX6_firstAgainst_34 rfl ?_
    refine ax_iload dX6_firstAgainst_36 rfl ?_
    refine ax_icmp_ge (tgt := 76) dX6_firstAgainst_38 (by decide) (fun z => absurd z (il_nle n r hr)) (fun _ => ?_)
    refine ax_aload_n dX6_firstAgainst_41 rfl ?_
    refine ax_get (v := .ref (ad (0, 6))) dX6_firstAgainst_42 fkX6_21 (cs_get hi (cs_k0 (by decide))) rfl ?_
    refine ax_iload_n dX6_firstAgainst_45 rfl ?_
    refine ax_iload dX6_firstAgainst_46 rfl ?_
    refine ax_callV (b := (ad (0, 6))) (av := [.int (nI t), .int (nI r)]) (rest := []) (mc' := 0) (ms' := 0) dX6_firstAgainst_48 rfl lkX6_115 (cs_get hi (cs_k0 (by decide))) rfl (Nat.le_of_ble_eq_true rfl) (Nat.le_of_ble_eq_true rfl) (by decide) (by decide) (ch_vat hi _ S h hf hw) (fun E9 h9 q9 => by cases q9.1) (fun v9 h9 q9 => ?_)
    obtain ⟨e9, rfl⟩ := q9
    cases e9
    show AW G mX6_firstAgainst (d + 16) 1 6 _ 51 [(0, .ref (ad (0, 0))), (1, .int (nI t)), (2, .int (nI p)), (3, .int (nI z)), (4, .int (nI n)), (5, .int (nI r))] [.ref (ad (1, w))] (cs_O ad S h) 0 0
    refine ax_astore dX6_firstAgainst_51 (by decide) ?_
    refine ax_sub (lv' := [(0, .ref (ad (0, 0))), (1, .int (nI t)), (2, .int (nI p)), (3, .int (nI z)), (4, .int (nI n)), (5, .int (nI r)), (6, .ref (ad (1, w)))]) (fun _ z => z) ?_
    refine ax_aload dX6_firstAgainst_53 rfl ?_
    refine ax_ifnull dX6_firstAgainst_55 ?_
    refine ax_aload dX6_firstAgainst_58 rfl ?_
    refine ax_iload_n dX6_firstAgainst_60 rfl ?_
    refine ax_callV (b := (ad (1, w))) (av := [.int (nI p)]) (rest := []) (mc' := 0) (ms' := 0) dX6_firstAgainst_61 rfl lkX6_119 (cs_get hi (cs_k1 (by omega))) rfl (Nat.le_of_ble_eq_true rfl) (Nat.le_of_ble_eq_true rfl) (by decide) (by decide) (ch_fits hi _ S h (v := w) (by omega) hok hgx hp5) (fun E9 h9 q9 => by cases q9.1) (fun v9 h9 q9 => ?_)
    obtain ⟨e9, rfl⟩ := q9
    cases e9
    show AW G mX6_firstAgainst (d + 16) 1 6 _ 64 [(0, .ref (ad (0, 0))), (1, .int (nI t)), (2, .int (nI p)), (3, .int (nI z)), (4, .int (nI n)), (5, .int (nI r)), (6, .ref (ad (1, w)))] [.int (if sp_cond p e.2.2 then 1 else 0)] (cs_O ad S h) 0 0
    refine ax_if_ne (tgt := 70) dX6_firstAgainst_64 (by decide) (fun z => absurd (by rw [hc]; decide) z) (fun _ => ?_)
    refine ax_iload dX6_firstAgainst_67 rfl ?_
    exact ax_iret (st := []) dX6_firstAgainst_69 rfl rfl hq
  | true =>
    have kk := kk hc
    refine ax_iload dX6_firstAgainst_34 rfl ?_
    refine ax_iload dX6_firstAgainst_36 rfl ?_
    refine ax_icmp_ge (tgt := 76) dX6_firstAgainst_38 (by decide) (fun z => absurd z (il_nle n r hr)) (fun _ => ?_)
    refine ax_aload_n dX6_firstAgainst_41 rfl ?_
    refine ax_get (v := .ref (ad (0, 6))) dX6_firstAgainst_42 fkX6_21 (cs_get hi (cs_k0 (by decide))) rfl ?_
    refine ax_iload_n dX6_firstAgainst_45 rfl ?_
    refine ax_iload dX6_firstAgainst_46 rfl ?_
    refine ax_callV (b := (ad (0, 6))) (av := [.int (nI t), .int (nI r)]) (rest := []) (mc' := 0) (ms' := 0) dX6_firstAgainst_48 rfl lkX6_115 (cs_get hi (cs_k0 (by decide))) rfl (Nat.le_of_ble_eq_true rfl) (Nat.le_of_ble_eq_true rfl) (by decide) (by decide) (ch_vat hi _ S h hf hw) (fun E9 h9 q9 => by cases q9.1) (fun v9 h9 q9 => ?_)
    obtain ⟨e9, rfl⟩ := q9
    cases e9
    show AW G mX6_firstAgainst (d + 16) 1 6 _ 51 [(0, .ref (ad (0, 0))), (1, .int (nI t)), (2, .int (nI p)), (3, .int (nI z)), (4, .int (nI n)), (5, .int (nI r))] [.ref (ad (1, w))] (cs_O ad S h) 0 0
    refine ax_astore dX6_firstAgainst_51 (by decide) ?_
    refine ax_sub (lv' := [(0, .ref (ad (0, 0))), (1, .int (nI t)), (2, .int (nI p)), (3, .int (nI z)), (4, .int (nI n)), (5, .int (nI r)), (6, .ref (ad (1, w)))]) (fun _ z => z) ?_
    refine ax_aload dX6_firstAgainst_53 rfl ?_
    refine ax_ifnull dX6_firstAgainst_55 ?_
    refine ax_aload dX6_firstAgainst_58 rfl ?_
    refine ax_iload_n dX6_firstAgainst_60 rfl ?_
    refine ax_callV (b := (ad (1, w))) (av := [.int (nI p)]) (rest := []) (mc' := 0) (ms' := 0) dX6_firstAgainst_61 rfl lkX6_119 (cs_get hi (cs_k1 (by omega))) rfl (Nat.le_of_ble_eq_true rfl) (Nat.le_of_ble_eq_true rfl) (by decide) (by decide) (ch_fits hi _ S h (v := w) (by omega) hok hgx hp5) (fun E9 h9 q9 => by cases q9.1) (fun v9 h9 q9 => ?_)
    obtain ⟨e9, rfl⟩ := q9
    cases e9
    show AW G mX6_firstAgainst (d + 16) 1 6 _ 64 [(0, .ref (ad (0, 0))), (1, .int (nI t)), (2, .int (nI p)), (3, .int (nI z)), (4, .int (nI n)), (5, .int (nI r)), (6, .ref (ad (1, w)))] [.int (if sp_cond p e.2.2 then 1 else 0)] (cs_O ad S h) 0 0
    refine ax_if_ne (tgt := 70) dX6_firstAgainst_64 (by decide) (fun _ => ?_) (fun z => absurd z (by rw [hc]; decide))
    refine ax_iinc (v := (nI (r + 1))) dX6_firstAgainst_70 rfl (nI_1 r) (by decide) ?_
    refine ax_sub (lv' := [(0, .ref (ad (0, 0))), (1, .int (nI t)), (2, .int (nI p)), (3, .int (nI z)), (4, .int (nI n)), (5, .int (nI (r + 1))), (6, .ref (ad (1, w)))]) (fun _ z => z) ?_
    refine ax_goto (tgt := 34) dX6_firstAgainst_73 (by decide) ?_
    exact ax_sub (fun q hq => List.mem_append_left [(6, Value.ref (ad (1, w)))] hq) kk
theorem fa_end (hi : cs_inj ad) (d : Nat) (S : cs_S) (h : ax_H) {t p z n : Nat} (hn : n ≤ 300) {Q : ax_P} (hq : Q (.inl (some (.int (-1)))) (cs_O ad S h)) : AW G mX6_firstAgainst (d + 16) 1 6 Q 34 [(0, .ref (ad (0, 0))), (1, .int (nI t)), (2, .int (nI p)), (3, .int (nI z)), (4, .int (nI n)), (5, .int (nI n))] [] (cs_O ad S h) 0 0 := by
  refine ax_iload dX6_firstAgainst_34 rfl ?_
  refine ax_iload dX6_firstAgainst_36 rfl ?_
  refine ax_icmp_ge (tgt := 76) dX6_firstAgainst_38 (by decide) (fun _ => ?_) (fun z => absurd (il_le n n (Nat.le_refl _)) z)
  refine ax_iconst (v := (-1)) dX6_firstAgainst_76 (by decide) ?_
  exact ax_iret (st := []) dX6_firstAgainst_77 rfl rfl hq
theorem fa_loop (hi : cs_inj ad) (d : Nat) (S : cs_S) (h : ax_H) {g : sp_G} {P : List sp_E × Nat} (hf : st_fin g P S) {t p z n : Nat} (hp5 : p ≤ 5) (hn : n ≤ sp_cnt P.1 t) {Q : ax_P} (hq : Q (.inl (some (.int (po_fst P.1 t p n)))) (cs_O ad S h)) : ∀ (i r : Nat), r + i = n → (∀ j, j < r → po_unfit P.1 p (po_at P.1 t j) = false) → AW G mX6_firstAgainst (d + 16) 1 6 Q 34 [(0, .ref (ad (0, 0))), (1, .int (nI t)), (2, .int (nI p)), (3, .int (nI z)), (4, .int (nI n)), (5, .int (nI r))] [] (cs_O ad S h) 0 0 := by
  have hT := hf.2.2.2.1.1
  have hc3 := sp_cnt_le P.1 t
  intro i
  induction i with
  | zero =>
    intro r hr hall
    have hr : r = n := by omega
    subst hr
    refine fa_end hi d S h (by omega) ?_
    have : po_fst P.1 t p r = -1 := by
      unfold po_fst
      rw [List.find?_range_eq_none.mpr (fun j hj => by rw [hall j hj]; rfl)]
    rw [← this]; exact hq
  | succ i ih =>
    intro r hr hall
    have hl : r < (sp_of P.1 t).length := by rw [sp_of_len]; omega
    have hw : (sp_of P.1 t)[r]? = some (sp_of P.1 t)[r] := List.getElem?_eq_getElem hl
    obtain ⟨e, f1, f2, f3, f4, f5, f6, f7, f8, f9⟩ := fin_at hf hw
    have hat : po_at P.1 t r = (sp_of P.1 t)[r] := by unfold po_at; rw [hw]; rfl
    have hxo : sp_xo P.1 (sp_of P.1 t)[r] = e.2.2 := by unfold sp_xo; rw [f1]
    have hun : po_unfit P.1 p (po_at P.1 t r) = !sp_cond p e.2.2 := by unfold po_unfit; rw [hat, hxo]
    refine fa_turn hi d S h hf hp5 (by omega) (by omega) hw f3 f8 (sp_wT_g hf.2.2.2.1 f1) (fun hc => ?_) (fun hc => ?_)
    · have : po_fst P.1 t p n = nI r := by
        unfold po_fst
        rw [List.find?_range_eq_some.mpr ⟨by rw [hun, hc]; rfl, List.mem_range.mpr (by omega), fun j hj => by rw [hall j hj]; rfl⟩]
      rw [← this]; exact hq
    · refine ih (r + 1) (by omega) (fun j hj => ?_)
      by_cases hjr : j = r
      · subst hjr; rw [hun, hc]; rfl
      · exact hall j (by omega)
set_option maxRecDepth 100000 in
set_option maxHeartbeats 4000000 in
theorem pb_against (hi : cs_inj ad) (d : Nat) (S : cs_S) (h : ax_H) {σ : sp_St} (hC : CI σ S) (t : Int32) (p : Int32) (s : Int32) : AW G mX6_firstAgainst (d + 16) 1 6 (pb_Q ad h (pb_nm ["java/lang/IndexOutOfBoundsException", "java/lang/IllegalArgumentException", "java/lang/IllegalStateException"]) (po_against σ t p s)) 0 [(0, .ref (ad (0, 0))), (1, .int t), (2, .int p), (3, .int s)] [] (cs_O ad S h) 0 0 := by
  cases hk1 : po_isT σ t with
  | false =>
    rw [show po_against σ t p s = ((1, _), σ) from congrArg (fun z => ((z, _), σ)) (if_pos hk1)]
    refine ax_aload_n dX6_firstAgainst_0 rfl ?_
    refine ax_iload_n dX6_firstAgainst_1 rfl ?_
    refine ax_callV (b := (ad (0, 0))) (av := [.int t]) (rest := []) (mc' := 1) (ms' := 6) dX6_firstAgainst_2 rfl lkX6_75 (cs_get hi (cs_k0 (by decide))) rfl (Nat.le_of_ble_eq_true rfl) (Nat.le_of_ble_eq_true rfl) (by decide) (by decide) (rq_typeN hi _ S h hC hk1) (fun E9 h9 q9 => by obtain ⟨e9, rfl⟩ := q9; cases e9; exact ⟨rfl, _, rfl, hC⟩) (fun v9 h9 q9 => ?_)
    cases q9.1
  | true =>
    by_cases hkp : p < 1 ∨ 5 < p
    · rw [show po_against σ t p s = ((2, _), σ) from congrArg (fun z => ((z, _), σ)) ((if_neg (by rw [hk1]; decide)).trans (if_pos hkp))]
      refine ax_aload_n dX6_firstAgainst_0 rfl ?_
      refine ax_iload_n dX6_firstAgainst_1 rfl ?_
      refine ax_callV (b := (ad (0, 0))) (av := [.int t]) (rest := []) (mc' := 0) (ms' := 0) dX6_firstAgainst_2 rfl lkX6_75 (cs_get hi (cs_k0 (by decide))) rfl (Nat.le_of_ble_eq_true rfl) (Nat.le_of_ble_eq_true rfl) (by decide) (by decide) (rq_typeY hi _ S h hC hk1) (fun E9 h9 q9 => by cases q9.1) (fun v9 h9 q9 => ?_)
      obtain ⟨e9, rfl⟩ := q9
      cases e9
      show AW G mX6_firstAgainst (d + 16) 1 6 _ 5 [(0, .ref (ad (0, 0))), (1, .int t), (2, .int p), (3, .int s)] [] (cs_O ad S h) 0 0
      refine ax_aload_n dX6_firstAgainst_5 rfl ?_
      refine ax_iload_n dX6_firstAgainst_6 rfl ?_
      refine ax_callV (b := (ad (0, 0))) (av := [.int p]) (rest := []) (mc' := 1) (ms' := 6) dX6_firstAgainst_7 rfl lkX6_112 (cs_get hi (cs_k0 (by decide))) rfl (Nat.le_of_ble_eq_true rfl) (Nat.le_of_ble_eq_true rfl) (by decide) (by decide) (rq_propN _ S h hkp) (fun E9 h9 q9 => by obtain ⟨e9, rfl⟩ := q9; cases e9; exact ⟨rfl, _, rfl, hC⟩) (fun v9 h9 q9 => ?_)
      cases q9.1
    · by_cases hk2 : s < 1 ∨ 8 < s
      · rw [show po_against σ t p s = ((2, _), σ) from congrArg (fun z => ((z, _), σ)) ((if_neg (by rw [hk1]; decide)).trans ((if_neg hkp).trans ((if_neg (by rw [hk1]; decide)).trans (if_pos hk2))))]
        refine ax_aload_n dX6_firstAgainst_0 rfl ?_
        refine ax_iload_n dX6_firstAgainst_1 rfl ?_
        refine ax_callV (b := (ad (0, 0))) (av := [.int t]) (rest := []) (mc' := 0) (ms' := 0) dX6_firstAgainst_2 rfl lkX6_75 (cs_get hi (cs_k0 (by decide))) rfl (Nat.le_of_ble_eq_true rfl) (Nat.le_of_ble_eq_true rfl) (by decide) (by decide) (rq_typeY hi _ S h hC hk1) (fun E9 h9 q9 => by cases q9.1) (fun v9 h9 q9 => ?_)
        obtain ⟨e9, rfl⟩ := q9
        cases e9
        show AW G mX6_firstAgainst (d + 16) 1 6 _ 5 [(0, .ref (ad (0, 0))), (1, .int t), (2, .int p), (3, .int s)] [] (cs_O ad S h) 0 0
        refine ax_aload_n dX6_firstAgainst_5 rfl ?_
        refine ax_iload_n dX6_firstAgainst_6 rfl ?_
        refine ax_callV (b := (ad (0, 0))) (av := [.int p]) (rest := []) (mc' := 0) (ms' := 0) dX6_firstAgainst_7 rfl lkX6_112 (cs_get hi (cs_k0 (by decide))) rfl (Nat.le_of_ble_eq_true rfl) (Nat.le_of_ble_eq_true rfl) (by decide) (by decide) (rq_propY _ S h hkp) (fun E9 h9 q9 => by cases q9.1) (fun v9 h9 q9 => ?_)
        obtain ⟨e9, rfl⟩ := q9
        cases e9
        show AW G mX6_firstAgainst (d + 16) 1 6 _ 10 [(0, .ref (ad (0, 0))), (1, .int t), (2, .int p), (3, .int s)] [] (cs_O ad S h) 0 0
        refine ax_aload_n dX6_firstAgainst_10 rfl ?_
        refine ax_iload_n dX6_firstAgainst_11 rfl ?_
        refine ax_callV (b := (ad (0, 0))) (av := [.int s]) (rest := []) (mc' := 1) (ms' := 6) dX6_firstAgainst_12 rfl lkX6_102 (cs_get hi (cs_k0 (by decide))) rfl (Nat.le_of_ble_eq_true rfl) (Nat.le_of_ble_eq_true rfl) (by decide) (by decide) (rq_sizeN _ S h hk2) (fun E9 h9 q9 => by obtain ⟨e9, rfl⟩ := q9; cases e9; exact ⟨rfl, _, rfl, hC⟩) (fun v9 h9 q9 => ?_)
        cases q9.1
      · by_cases hk3 : nI (po_H σ) < s
        · rw [show po_against σ t p s = ((3, _), σ) from congrArg (fun z => ((z, _), σ)) ((if_neg (by rw [hk1]; decide)).trans ((if_neg hkp).trans ((if_neg (by rw [hk1]; decide)).trans ((if_neg hk2).trans (if_pos hk3)))))]
          refine ax_aload_n dX6_firstAgainst_0 rfl ?_
          refine ax_iload_n dX6_firstAgainst_1 rfl ?_
          refine ax_callV (b := (ad (0, 0))) (av := [.int t]) (rest := []) (mc' := 0) (ms' := 0) dX6_firstAgainst_2 rfl lkX6_75 (cs_get hi (cs_k0 (by decide))) rfl (Nat.le_of_ble_eq_true rfl) (Nat.le_of_ble_eq_true rfl) (by decide) (by decide) (rq_typeY hi _ S h hC hk1) (fun E9 h9 q9 => by cases q9.1) (fun v9 h9 q9 => ?_)
          obtain ⟨e9, rfl⟩ := q9
          cases e9
          show AW G mX6_firstAgainst (d + 16) 1 6 _ 5 [(0, .ref (ad (0, 0))), (1, .int t), (2, .int p), (3, .int s)] [] (cs_O ad S h) 0 0
          refine ax_aload_n dX6_firstAgainst_5 rfl ?_
          refine ax_iload_n dX6_firstAgainst_6 rfl ?_
          refine ax_callV (b := (ad (0, 0))) (av := [.int p]) (rest := []) (mc' := 0) (ms' := 0) dX6_firstAgainst_7 rfl lkX6_112 (cs_get hi (cs_k0 (by decide))) rfl (Nat.le_of_ble_eq_true rfl) (Nat.le_of_ble_eq_true rfl) (by decide) (by decide) (rq_propY _ S h hkp) (fun E9 h9 q9 => by cases q9.1) (fun v9 h9 q9 => ?_)
          obtain ⟨e9, rfl⟩ := q9
          cases e9
          show AW G mX6_firstAgainst (d + 16) 1 6 _ 10 [(0, .ref (ad (0, 0))), (1, .int t), (2, .int p), (3, .int s)] [] (cs_O ad S h) 0 0
          refine ax_aload_n dX6_firstAgainst_10 rfl ?_
          refine ax_iload_n dX6_firstAgainst_11 rfl ?_
          refine ax_callV (b := (ad (0, 0))) (av := [.int s]) (rest := []) (mc' := 0) (ms' := 0) dX6_firstAgainst_12 rfl lkX6_102 (cs_get hi (cs_k0 (by decide))) rfl (Nat.le_of_ble_eq_true rfl) (Nat.le_of_ble_eq_true rfl) (by decide) (by decide) (rq_sizeY _ S h hk2) (fun E9 h9 q9 => by cases q9.1) (fun v9 h9 q9 => ?_)
          obtain ⟨e9, rfl⟩ := q9
          cases e9
          show AW G mX6_firstAgainst (d + 16) 1 6 _ 15 [(0, .ref (ad (0, 0))), (1, .int t), (2, .int p), (3, .int s)] [] (cs_O ad S h) 0 0
          refine ax_aload_n dX6_firstAgainst_15 rfl ?_
          refine ax_iload_n dX6_firstAgainst_16 rfl ?_
          refine ax_callV (b := (ad (0, 0))) (av := [.int s]) (rest := []) (mc' := 1) (ms' := 6) dX6_firstAgainst_17 rfl lkX6_105 (cs_get hi (cs_k0 (by decide))) rfl (Nat.le_of_ble_eq_true rfl) (Nat.le_of_ble_eq_true rfl) (by decide) (by decide) (rq_knownN hi _ S h hC hk3 (Q := fun r h1 => r = .inr "java/lang/IllegalStateException" ∧ ∃ S', h1 = cs_O ad S' h ∧ CI σ S') (fun S' a => ⟨rfl, S', rfl, a⟩)) (fun E9 h9 q9 => by obtain ⟨e9, S1, rfl, o1⟩ := q9; cases e9; exact ⟨rfl, S1, rfl, o1⟩) (fun v9 h9 q9 => ?_)
          cases q9.1
        · rw [show po_against σ t p s = ((0, _), σ) from congrArg (fun z => ((z, _), σ)) ((if_neg (by rw [hk1]; decide)).trans ((if_neg hkp).trans ((if_neg (by rw [hk1]; decide)).trans ((if_neg hk2).trans (if_neg hk3)))))]
          obtain ⟨t, rfl, -, ht4⟩ := po_isT_nat hC.1 hk1
          obtain ⟨z, rfl, hz1, hz8⟩ := i_rng hk2
          obtain ⟨p, rfl, hp1, hp5⟩ := i_prp hkp
          have hzh : z ≤ po_H σ := by
            have := i_not_le hk3
            by_cases hb : po_H σ < 2 ^ 31
            · exact (nI_leI (by omega) hb).mp this
            · omega
          refine ax_aload_n dX6_firstAgainst_0 rfl ?_
          refine ax_iload_n dX6_firstAgainst_1 rfl ?_
          refine ax_callV (b := (ad (0, 0))) (av := [.int (nI t)]) (rest := []) (mc' := 0) (ms' := 0) dX6_firstAgainst_2 rfl lkX6_75 (cs_get hi (cs_k0 (by decide))) rfl (Nat.le_of_ble_eq_true rfl) (Nat.le_of_ble_eq_true rfl) (by decide) (by decide) (rq_typeY hi _ S h hC hk1) (fun E9 h9 q9 => by cases q9.1) (fun v9 h9 q9 => ?_)
          obtain ⟨e9, rfl⟩ := q9
          cases e9
          show AW G mX6_firstAgainst (d + 16) 1 6 _ 5 [(0, .ref (ad (0, 0))), (1, .int (nI t)), (2, .int (nI p)), (3, .int (nI z))] [] (cs_O ad S h) 0 0
          refine ax_aload_n dX6_firstAgainst_5 rfl ?_
          refine ax_iload_n dX6_firstAgainst_6 rfl ?_
          refine ax_callV (b := (ad (0, 0))) (av := [.int (nI p)]) (rest := []) (mc' := 0) (ms' := 0) dX6_firstAgainst_7 rfl lkX6_112 (cs_get hi (cs_k0 (by decide))) rfl (Nat.le_of_ble_eq_true rfl) (Nat.le_of_ble_eq_true rfl) (by decide) (by decide) (rq_propY _ S h hkp) (fun E9 h9 q9 => by cases q9.1) (fun v9 h9 q9 => ?_)
          obtain ⟨e9, rfl⟩ := q9
          cases e9
          show AW G mX6_firstAgainst (d + 16) 1 6 _ 10 [(0, .ref (ad (0, 0))), (1, .int (nI t)), (2, .int (nI p)), (3, .int (nI z))] [] (cs_O ad S h) 0 0
          refine ax_aload_n dX6_firstAgainst_10 rfl ?_
          refine ax_iload_n dX6_firstAgainst_11 rfl ?_
          refine ax_callV (b := (ad (0, 0))) (av := [.int (nI z)]) (rest := []) (mc' := 0) (ms' := 0) dX6_firstAgainst_12 rfl lkX6_102 (cs_get hi (cs_k0 (by decide))) rfl (Nat.le_of_ble_eq_true rfl) (Nat.le_of_ble_eq_true rfl) (by decide) (by decide) (rq_sizeY _ S h hk2) (fun E9 h9 q9 => by cases q9.1) (fun v9 h9 q9 => ?_)
          obtain ⟨e9, rfl⟩ := q9
          cases e9
          show AW G mX6_firstAgainst (d + 16) 1 6 _ 15 [(0, .ref (ad (0, 0))), (1, .int (nI t)), (2, .int (nI p)), (3, .int (nI z))] [] (cs_O ad S h) 0 0
          refine ax_aload_n dX6_firstAgainst_15 rfl ?_
          refine ax_iload_n dX6_firstAgainst_16 rfl ?_
          refine ax_callV (b := (ad (0, 0))) (av := [.int (nI z)]) (rest := []) (mc' := 0) (ms' := 0) dX6_firstAgainst_17 rfl lkX6_105 (cs_get hi (cs_k0 (by decide))) rfl (Nat.le_of_ble_eq_true rfl) (Nat.le_of_ble_eq_true rfl) (by decide) (by decide) (rq_knownY hi _ S h hC hk3 (Q := fun r h1 => r = .inl none ∧ ∃ S', h1 = cs_O ad S' h ∧ CI σ S' ∧ st_fin σ.1 (sp_tab σ.1) S') (fun S' a b => ⟨rfl, S', rfl, a, b⟩)) (fun E9 h9 q9 => by cases q9.1) (fun v9 h9 q9 => ?_)
          obtain ⟨e9, S1, rfl, o1, o2⟩ := q9
          cases e9
          show AW G mX6_firstAgainst (d + 16) 1 6 _ 20 [(0, .ref (ad (0, 0))), (1, .int (nI t)), (2, .int (nI p)), (3, .int (nI z))] [] (cs_O ad S1 h) 0 0
          refine ax_aload_n dX6_firstAgainst_20 rfl ?_
          refine ax_get (v := .ref (ad (0, 6))) dX6_firstAgainst_21 fkX6_21 (cs_get hi (cs_k0 (by decide))) rfl ?_
          refine ax_iload_n dX6_firstAgainst_24 rfl ?_
          refine ax_iload_n dX6_firstAgainst_25 rfl ?_
          refine ax_callV (b := (ad (0, 6))) (av := [.int (nI t), .int (nI z)]) (rest := []) (mc' := 0) (ms' := 0) dX6_firstAgainst_26 rfl lkX6_108 (cs_get hi (cs_k0 (by decide))) rfl (Nat.le_of_ble_eq_true rfl) (Nat.le_of_ble_eq_true rfl) (by decide) (by decide) (ch_up hi _ S1 h o2 ht4 (by show _ ≤ po_H σ; omega)) (fun E9 h9 q9 => by cases q9.1) (fun v9 h9 q9 => ?_)
          obtain ⟨e9, rfl⟩ := q9
          cases e9
          show AW G mX6_firstAgainst (d + 16) 1 6 _ 29 [(0, .ref (ad (0, 0))), (1, .int (nI t)), (2, .int (nI p)), (3, .int (nI z))] [.int (nI (sp_upto (po_T σ) t z))] (cs_O ad S1 h) 0 0
          refine ax_istore dX6_firstAgainst_29 (by decide) ?_
          refine ax_sub (lv' := [(0, .ref (ad (0, 0))), (1, .int (nI t)), (2, .int (nI p)), (3, .int (nI z)), (4, .int (nI (sp_upto (po_T σ) t z)))]) (fun _ z => z) ?_
          refine ax_iconst (v := 0) dX6_firstAgainst_31 (by decide) ?_
          refine ax_istore dX6_firstAgainst_32 (by decide) ?_
          refine ax_sub (lv' := [(0, .ref (ad (0, 0))), (1, .int (nI t)), (2, .int (nI p)), (3, .int (nI z)), (4, .int (nI (sp_upto (po_T σ) t z))), (5, .int 0)]) (fun _ z => z) ?_
          refine fa_loop hi d S1 h o2 (t := t) (p := p) (z := z) (n := sp_upto (po_T σ) t z) hp5 (sp_upto_le _ _ _) ⟨?_, S1, rfl, o1⟩ (sp_upto (po_T σ) t z) 0 (by omega) (fun j hj => absurd hj (by omega))
          show _ = Sum.inl (some (Value.int (po_fst (po_T σ) (nI t).toNatClampNeg (nI p).toNatClampNeg (po_up σ (nI t) (nI z).toNatClampNeg))))
          unfold po_up
          rw [nI_clamp (by omega), nI_clamp (by omega), nI_clamp (by omega)]; rfl
set_option maxRecDepth 100000 in
set_option maxHeartbeats 4000000 in
theorem pb_select (hi : cs_inj ad) (d : Nat) (S : cs_S) (h : ax_H) {σ : sp_St} (hC : CI σ S) (t : Int32) (n : Int32) : AW G mX6_select (d + 16) 1 6 (pb_Q ad h (pb_nm ["java/lang/IndexOutOfBoundsException", "java/lang/IllegalStateException"]) (po_select σ t n)) 0 [(0, .ref (ad (0, 0))), (1, .int t), (2, .int n)] [] (cs_O ad S h) 0 0 := by
  cases hk1 : po_isT σ t with
  | false =>
    rw [show po_select σ t n = ((1, 0), σ) from if_pos hk1]
    refine ax_aload_n dX6_select_0 rfl ?_
    refine ax_iload_n dX6_select_1 rfl ?_
    refine ax_callV (b := (ad (0, 0))) (av := [.int t]) (rest := []) (mc' := 1) (ms' := 6) dX6_select_2 rfl lkX6_75 (cs_get hi (cs_k0 (by decide))) rfl (Nat.le_of_ble_eq_true rfl) (Nat.le_of_ble_eq_true rfl) (by decide) (by decide) (rq_typeN hi _ S h hC hk1) (fun E9 h9 q9 => by obtain ⟨e9, rfl⟩ := q9; cases e9; exact ⟨rfl, _, rfl, hC⟩) (fun v9 h9 q9 => ?_)
    cases q9.1
  | true =>
    obtain ⟨t, rfl, -, ht4⟩ := po_isT_nat hC.1 hk1
    by_cases hn0 : n < 0
    · rw [show po_select σ (nI t) n = ((1, 0), σ) from (if_neg (by rw [hk1]; decide)).trans (if_pos hn0)]
      have hz : n < 0 ∨ nI (sp_cnt (sp_tab σ.1).1 t) ≤ n := Or.inl hn0
      refine ax_aload_n dX6_select_0 rfl ?_
      refine ax_iload_n dX6_select_1 rfl ?_
      refine ax_callV (b := (ad (0, 0))) (av := [.int (nI t)]) (rest := []) (mc' := 0) (ms' := 0) dX6_select_2 rfl lkX6_75 (cs_get hi (cs_k0 (by decide))) rfl (Nat.le_of_ble_eq_true rfl) (Nat.le_of_ble_eq_true rfl) (by decide) (by decide) (rq_typeY hi _ S h hC hk1) (fun E9 h9 q9 => by cases q9.1) (fun v9 h9 q9 => ?_)
      obtain ⟨e9, rfl⟩ := q9
      cases e9
      show AW G mX6_select (d + 16) 1 6 _ 5 [(0, .ref (ad (0, 0))), (1, .int (nI t)), (2, .int n)] [] (cs_O ad S h) 0 0
      refine ax_aload_n dX6_select_5 rfl ?_
      refine ax_get (v := .ref (ad (0, 6))) dX6_select_6 fkX6_21 (cs_get hi (cs_k0 (by decide))) rfl ?_
      refine ax_callV (b := (ad (0, 6))) (av := []) (rest := []) (mc' := 0) (ms' := 0) dX6_select_9 rfl lkX6_96 (cs_get hi (cs_k0 (by decide))) rfl (Nat.le_of_ble_eq_true rfl) (Nat.le_of_ble_eq_true rfl) (by decide) (by decide) (ch_ref hi _ h S hC (Q := fun r h1 => r = .inl none ∧ ∃ S', h1 = cs_O ad S' h ∧ CI σ S' ∧ st_fin σ.1 (sp_tab σ.1) S') (fun S' a b => ⟨rfl, S', rfl, a, b⟩)) (fun E9 h9 q9 => by cases q9.1) (fun v9 h9 q9 => ?_)
      obtain ⟨e9, S1, rfl, o1, o2⟩ := q9
      cases e9
      show AW G mX6_select (d + 16) 1 6 _ 12 [(0, .ref (ad (0, 0))), (1, .int (nI t)), (2, .int n)] [] (cs_O ad S1 h) 0 0
      refine ax_aload_n dX6_select_12 rfl ?_
      refine ax_get (v := .ref (ad (0, 6))) dX6_select_13 fkX6_21 (cs_get hi (cs_k0 (by decide))) rfl ?_
      refine ax_iload_n dX6_select_16 rfl ?_
      refine ax_iload_n dX6_select_17 rfl ?_
      refine ax_callV (b := (ad (0, 6))) (av := [.int (nI t), .int n]) (rest := []) (mc' := 0) (ms' := 0) dX6_select_18 rfl lkX6_115 (cs_get hi (cs_k0 (by decide))) rfl (Nat.le_of_ble_eq_true rfl) (Nat.le_of_ble_eq_true rfl) (by decide) (by decide) (ch_vatN hi _ S1 h o2 ht4 hz) (fun E9 h9 q9 => by cases q9.1) (fun v9 h9 q9 => ?_)
      obtain ⟨e9, rfl⟩ := q9
      cases e9
      show AW G mX6_select (d + 16) 1 6 _ 21 [(0, .ref (ad (0, 0))), (1, .int (nI t)), (2, .int n)] [.null] (cs_O ad S1 h) 0 0
      refine ax_astore_nN dX6_select_21 (by decide) ?_
      refine ax_sub (lv' := [(0, .ref (ad (0, 0))), (1, .int (nI t)), (2, .int n), (3, .null)]) (fun _ z => z) ?_
      refine ax_aload_nN dX6_select_22 rfl ?_
      refine ax_ifnonnullN dX6_select_23 ?_
      refine ax_iload_n dX6_select_26 rfl ?_
      refine ax_if_lt (tgt := 42) dX6_select_27 (by decide) (fun _ => ?_) (fun z => absurd hn0 z)
      exact ax_throw rfl (thIOB (List.mem_of_getElem? (i := 5) rfl)) dX6_select_42 dX6_select_45 dX6_select_46 dX6_select_48 dX6_select_51 (by decide) (by decide) (by decide) ⟨rfl, S1, rfl, o1⟩
    · obtain ⟨k, hk, rfl⟩ := nI_of hn0
      cases hw : (sp_of (po_T σ) t)[k]? with
      | none =>
        have hl : sp_cnt (po_T σ) t ≤ k := by rw [← sp_of_len]; exact List.getElem?_eq_none_iff.mp hw
        have hz : nI k < 0 ∨ nI (sp_cnt (sp_tab σ.1).1 t) ≤ nI k := Or.inr (nI_le hl hk)
        have e0 : po_select σ (nI t) (nI k) = ((if po_H σ = 8 then 1 else 2, 0), σ) := by
          unfold po_select
          rw [if_neg (by rw [hk1]; decide), if_neg hn0, nI_clamp (by omega), nI_clamp hk, hw]
        rw [e0]
        by_cases h8 : po_H σ = 8
        · rw [if_pos h8]
          refine ax_aload_n dX6_select_0 rfl ?_
          refine ax_iload_n dX6_select_1 rfl ?_
          refine ax_callV (b := (ad (0, 0))) (av := [.int (nI t)]) (rest := []) (mc' := 0) (ms' := 0) dX6_select_2 rfl lkX6_75 (cs_get hi (cs_k0 (by decide))) rfl (Nat.le_of_ble_eq_true rfl) (Nat.le_of_ble_eq_true rfl) (by decide) (by decide) (rq_typeY hi _ S h hC hk1) (fun E9 h9 q9 => by cases q9.1) (fun v9 h9 q9 => ?_)
          obtain ⟨e9, rfl⟩ := q9
          cases e9
          show AW G mX6_select (d + 16) 1 6 _ 5 [(0, .ref (ad (0, 0))), (1, .int (nI t)), (2, .int (nI k))] [] (cs_O ad S h) 0 0
          refine ax_aload_n dX6_select_5 rfl ?_
          refine ax_get (v := .ref (ad (0, 6))) dX6_select_6 fkX6_21 (cs_get hi (cs_k0 (by decide))) rfl ?_
          refine ax_callV (b := (ad (0, 6))) (av := []) (rest := []) (mc' := 0) (ms' := 0) dX6_select_9 rfl lkX6_96 (cs_get hi (cs_k0 (by decide))) rfl (Nat.le_of_ble_eq_true rfl) (Nat.le_of_ble_eq_true rfl) (by decide) (by decide) (ch_ref hi _ h S hC (Q := fun r h1 => r = .inl none ∧ ∃ S', h1 = cs_O ad S' h ∧ CI σ S' ∧ st_fin σ.1 (sp_tab σ.1) S') (fun S' a b => ⟨rfl, S', rfl, a, b⟩)) (fun E9 h9 q9 => by cases q9.1) (fun v9 h9 q9 => ?_)
          obtain ⟨e9, S1, rfl, o1, o2⟩ := q9
          cases e9
          show AW G mX6_select (d + 16) 1 6 _ 12 [(0, .ref (ad (0, 0))), (1, .int (nI t)), (2, .int (nI k))] [] (cs_O ad S1 h) 0 0
          refine ax_aload_n dX6_select_12 rfl ?_
          refine ax_get (v := .ref (ad (0, 6))) dX6_select_13 fkX6_21 (cs_get hi (cs_k0 (by decide))) rfl ?_
          refine ax_iload_n dX6_select_16 rfl ?_
          refine ax_iload_n dX6_select_17 rfl ?_
          refine ax_callV (b := (ad (0, 6))) (av := [.int (nI t), .int (nI k)]) (rest := []) (mc' := 0) (ms' := 0) dX6_select_18 rfl lkX6_115 (cs_get hi (cs_k0 (by decide))) rfl (Nat.le_of_ble_eq_true rfl) (Nat.le_of_ble_eq_true rfl) (by decide) (by decide) (ch_vatN hi _ S1 h o2 ht4 hz) (fun E9 h9 q9 => by cases q9.1) (fun v9 h9 q9 => ?_)
          obtain ⟨e9, rfl⟩ := q9
          cases e9
          show AW G mX6_select (d + 16) 1 6 _ 21 [(0, .ref (ad (0, 0))), (1, .int (nI t)), (2, .int (nI k))] [.null] (cs_O ad S1 h) 0 0
          refine ax_astore_nN dX6_select_21 (by decide) ?_
          refine ax_sub (lv' := [(0, .ref (ad (0, 0))), (1, .int (nI t)), (2, .int (nI k)), (3, .null)]) (fun _ z => z) ?_
          refine ax_aload_nN dX6_select_22 rfl ?_
          refine ax_ifnonnullN dX6_select_23 ?_
          refine ax_iload_n dX6_select_26 rfl ?_
          refine ax_if_lt (tgt := 42) dX6_select_27 (by decide) (fun z => absurd z hn0) (fun _ => ?_)
          refine ax_aload_n dX6_select_30 rfl ?_
          refine ax_get (v := .ref (ad (0, 6))) dX6_select_31 fkX6_21 (cs_get hi (cs_k0 (by decide))) rfl ?_
          refine ax_get (v := .int (nI (po_H σ))) dX6_select_34 fkX6_99 (cs_get hi (cs_k0 (by decide))) (congrArg (fun z => some (Value.int z)) (o2.2.2.2.2.2.2.2.2.1)) ?_
          refine ax_bipush (v := 8) dX6_select_37 (by decide) ?_
          refine ax_icmp_ne (tgt := 52) dX6_select_39 (by decide) (fun z => absurd (by rw [h8]; decide) z) (fun _ => ?_)
          exact ax_throw rfl (thIOB (List.mem_of_getElem? (i := 5) rfl)) dX6_select_42 dX6_select_45 dX6_select_46 dX6_select_48 dX6_select_51 (by decide) (by decide) (by decide) ⟨rfl, S1, rfl, o1⟩
        · rw [if_neg h8]
          have h8b : ∀ S2, st_fin σ.1 (sp_tab σ.1) S2 → po_H σ ≤ 8 := fun S2 z => z.2.2.2.2.2.2.2.1
          refine ax_aload_n dX6_select_0 rfl ?_
          refine ax_iload_n dX6_select_1 rfl ?_
          refine ax_callV (b := (ad (0, 0))) (av := [.int (nI t)]) (rest := []) (mc' := 0) (ms' := 0) dX6_select_2 rfl lkX6_75 (cs_get hi (cs_k0 (by decide))) rfl (Nat.le_of_ble_eq_true rfl) (Nat.le_of_ble_eq_true rfl) (by decide) (by decide) (rq_typeY hi _ S h hC hk1) (fun E9 h9 q9 => by cases q9.1) (fun v9 h9 q9 => ?_)
          obtain ⟨e9, rfl⟩ := q9
          cases e9
          show AW G mX6_select (d + 16) 1 6 _ 5 [(0, .ref (ad (0, 0))), (1, .int (nI t)), (2, .int (nI k))] [] (cs_O ad S h) 0 0
          refine ax_aload_n dX6_select_5 rfl ?_
          refine ax_get (v := .ref (ad (0, 6))) dX6_select_6 fkX6_21 (cs_get hi (cs_k0 (by decide))) rfl ?_
          refine ax_callV (b := (ad (0, 6))) (av := []) (rest := []) (mc' := 0) (ms' := 0) dX6_select_9 rfl lkX6_96 (cs_get hi (cs_k0 (by decide))) rfl (Nat.le_of_ble_eq_true rfl) (Nat.le_of_ble_eq_true rfl) (by decide) (by decide) (ch_ref hi _ h S hC (Q := fun r h1 => r = .inl none ∧ ∃ S', h1 = cs_O ad S' h ∧ CI σ S' ∧ st_fin σ.1 (sp_tab σ.1) S') (fun S' a b => ⟨rfl, S', rfl, a, b⟩)) (fun E9 h9 q9 => by cases q9.1) (fun v9 h9 q9 => ?_)
          obtain ⟨e9, S1, rfl, o1, o2⟩ := q9
          cases e9
          show AW G mX6_select (d + 16) 1 6 _ 12 [(0, .ref (ad (0, 0))), (1, .int (nI t)), (2, .int (nI k))] [] (cs_O ad S1 h) 0 0
          refine ax_aload_n dX6_select_12 rfl ?_
          refine ax_get (v := .ref (ad (0, 6))) dX6_select_13 fkX6_21 (cs_get hi (cs_k0 (by decide))) rfl ?_
          refine ax_iload_n dX6_select_16 rfl ?_
          refine ax_iload_n dX6_select_17 rfl ?_
          refine ax_callV (b := (ad (0, 6))) (av := [.int (nI t), .int (nI k)]) (rest := []) (mc' := 0) (ms' := 0) dX6_select_18 rfl lkX6_115 (cs_get hi (cs_k0 (by decide))) rfl (Nat.le_of_ble_eq_true rfl) (Nat.le_of_ble_eq_true rfl) (by decide) (by decide) (ch_vatN hi _ S1 h o2 ht4 hz) (fun E9 h9 q9 => by cases q9.1) (fun v9 h9 q9 => ?_)
          obtain ⟨e9, rfl⟩ := q9
          cases e9
          show AW G mX6_select (d + 16) 1 6 _ 21 [(0, .ref (ad (0, 0))), (1, .int (nI t)), (2, .int (nI k))] [.null] (cs_O ad S1 h) 0 0
          refine ax_astore_nN dX6_select_21 (by decide) ?_
          refine ax_sub (lv' := [(0, .ref (ad (0, 0))), (1, .int (nI t)), (2, .int (nI k)), (3, .null)]) (fun _ z => z) ?_
          refine ax_aload_nN dX6_select_22 rfl ?_
          refine ax_ifnonnullN dX6_select_23 ?_
          refine ax_iload_n dX6_select_26 rfl ?_
          refine ax_if_lt (tgt := 42) dX6_select_27 (by decide) (fun z => absurd z hn0) (fun _ => ?_)
          refine ax_aload_n dX6_select_30 rfl ?_
          refine ax_get (v := .ref (ad (0, 6))) dX6_select_31 fkX6_21 (cs_get hi (cs_k0 (by decide))) rfl ?_
          refine ax_get (v := .int (nI (po_H σ))) dX6_select_34 fkX6_99 (cs_get hi (cs_k0 (by decide))) (congrArg (fun z => some (Value.int z)) (o2.2.2.2.2.2.2.2.2.1)) ?_
          refine ax_bipush (v := 8) dX6_select_37 (by decide) ?_
          refine ax_icmp_ne (tgt := 52) dX6_select_39 (by decide) (fun _ => ?_) (fun z => absurd z (il_ne (po_H σ) 8 h8 rfl rfl (by have := h8b S1 o2; omega) (by decide)))
          refine ax_aload_nN dX6_select_52 rfl ?_
          refine ax_ifnonnullN dX6_select_53 ?_
          exact ax_throw rfl (thISE (List.mem_of_getElem? (i := 6) rfl)) dX6_select_56 dX6_select_59 dX6_select_60 dX6_select_62 dX6_select_65 (by decide) (by decide) (by decide) ⟨rfl, S1, rfl, o1⟩
      | some w =>
        have e0 : po_select σ (nI t) (nI k) = ((0, nI (1 + sp_size (sp_xo (po_T σ) w))), (σ.1, σ.2.1, some w)) := by
          unfold po_select
          rw [if_neg (by rw [hk1]; decide), if_neg hn0, nI_clamp (by omega), nI_clamp hk, hw]
        rw [e0]
        obtain ⟨e, f1, f2, f3⟩ := sp_of_at hw
        have hxo : sp_xo (po_T σ) w = e.2.2 := by unfold sp_xo; rw [f1]
        have f80 : ∀ S2, st_fin σ.1 (sp_tab σ.1) S2 → w < 300 ∧ sp_ok (cs_vf S2 w) (cs_vn S2 w) (cs_vp S2 w) e.1 e.2.1 e.2.2 := fun S2 z => ⟨Nat.lt_of_lt_of_le (List.getElem?_eq_some_iff.mp f1).1 z.2.2.2.1.1, (z.2.2.1.2 w e f1).1⟩
        refine ax_aload_n dX6_select_0 rfl ?_
        refine ax_iload_n dX6_select_1 rfl ?_
        refine ax_callV (b := (ad (0, 0))) (av := [.int (nI t)]) (rest := []) (mc' := 0) (ms' := 0) dX6_select_2 rfl lkX6_75 (cs_get hi (cs_k0 (by decide))) rfl (Nat.le_of_ble_eq_true rfl) (Nat.le_of_ble_eq_true rfl) (by decide) (by decide) (rq_typeY hi _ S h hC hk1) (fun E9 h9 q9 => by cases q9.1) (fun v9 h9 q9 => ?_)
        obtain ⟨e9, rfl⟩ := q9
        cases e9
        show AW G mX6_select (d + 16) 1 6 _ 5 [(0, .ref (ad (0, 0))), (1, .int (nI t)), (2, .int (nI k))] [] (cs_O ad S h) 0 0
        refine ax_aload_n dX6_select_5 rfl ?_
        refine ax_get (v := .ref (ad (0, 6))) dX6_select_6 fkX6_21 (cs_get hi (cs_k0 (by decide))) rfl ?_
        refine ax_callV (b := (ad (0, 6))) (av := []) (rest := []) (mc' := 0) (ms' := 0) dX6_select_9 rfl lkX6_96 (cs_get hi (cs_k0 (by decide))) rfl (Nat.le_of_ble_eq_true rfl) (Nat.le_of_ble_eq_true rfl) (by decide) (by decide) (ch_ref hi _ h S hC (Q := fun r h1 => r = .inl none ∧ ∃ S', h1 = cs_O ad S' h ∧ CI σ S' ∧ st_fin σ.1 (sp_tab σ.1) S') (fun S' a b => ⟨rfl, S', rfl, a, b⟩)) (fun E9 h9 q9 => by cases q9.1) (fun v9 h9 q9 => ?_)
        obtain ⟨e9, S1, rfl, o1, o2⟩ := q9
        cases e9
        obtain ⟨hw3, f8⟩ := f80 S1 o2
        show AW G mX6_select (d + 16) 1 6 _ 12 [(0, .ref (ad (0, 0))), (1, .int (nI t)), (2, .int (nI k))] [] (cs_O ad S1 h) 0 0
        refine ax_aload_n dX6_select_12 rfl ?_
        refine ax_get (v := .ref (ad (0, 6))) dX6_select_13 fkX6_21 (cs_get hi (cs_k0 (by decide))) rfl ?_
        refine ax_iload_n dX6_select_16 rfl ?_
        refine ax_iload_n dX6_select_17 rfl ?_
        refine ax_callV (b := (ad (0, 6))) (av := [.int (nI t), .int (nI k)]) (rest := []) (mc' := 0) (ms' := 0) dX6_select_18 rfl lkX6_115 (cs_get hi (cs_k0 (by decide))) rfl (Nat.le_of_ble_eq_true rfl) (Nat.le_of_ble_eq_true rfl) (by decide) (by decide) (ch_vat hi _ S1 h o2 hw) (fun E9 h9 q9 => by cases q9.1) (fun v9 h9 q9 => ?_)
        obtain ⟨e9, rfl⟩ := q9
        cases e9
        show AW G mX6_select (d + 16) 1 6 _ 21 [(0, .ref (ad (0, 0))), (1, .int (nI t)), (2, .int (nI k))] [.ref (ad (1, w))] (cs_O ad S1 h) 0 0
        refine ax_astore_n dX6_select_21 (by decide) ?_
        refine ax_sub (lv' := [(0, .ref (ad (0, 0))), (1, .int (nI t)), (2, .int (nI k)), (3, .ref (ad (1, w)))]) (fun _ z => z) ?_
        refine ax_aload_n dX6_select_22 rfl ?_
        refine ax_ifnonnull (tgt := 52) dX6_select_23 (by decide) ?_
        refine ax_aload_n dX6_select_52 rfl ?_
        refine ax_ifnonnull (tgt := 66) dX6_select_53 (by decide) ?_
        refine ax_aload_n dX6_select_66 rfl ?_
        refine ax_aload_n dX6_select_67 rfl ?_
        refine ax_put dX6_select_68 fpX6_46 (cs_get hi (cs_k0 (by decide))) rfl rfl (Nat.le_of_ble_eq_true rfl) ?_
        refine ax_eqh (cs_pl hi (o := some w)) ?_
        refine ax_aload_n dX6_select_71 rfl ?_
        refine ax_get (v := .int (cs_vf (cs_setL S1 (some w)) w 6)) dX6_select_72 fkX6_132 (cs_get hi (cs_k1 (by omega))) rfl ?_
        refine ax_iret (st := []) dX6_select_75 rfl rfl ⟨?_, _, rfl, ?_⟩
        · show Sum.inl (some (Value.int (cs_vf S1 w 6))) = Sum.inl (some (Value.int (nI (1 + sp_size (sp_xo (po_T σ) w)))))
          rw [f8.2.2.2.1, hxo]
        · exact CI_mv o1 (S' := cs_setL S1 (some w)) ⟨fun _ _ _ _ => rfl, fun _ _ => rfl, fun _ _ => rfl, fun _ _ => ⟨rfl, rfl, rfl⟩⟩ o1.2.2.2.1 rfl (fun v hv => by cases hv; exact ⟨(List.getElem?_eq_some_iff.mp f1).1, o2.2.2.2.2.2.2.2.2.2⟩)
end PUB2
