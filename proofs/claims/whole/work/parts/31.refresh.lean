/-! ===== closeSize, refresh ===== -/
/-- the values of the table in their cells -/
def st_K (S : cs_S) (T : List sp_E) : Prop := (∀ t, t < 4 → S.2.1 9 t = nI (sp_cnt T t)) ∧ ∀ v e, T[v]? = some e → sp_ok (cs_vf S v) (cs_vn S v) (cs_vp S v) e.1 e.2.1 e.2.2 ∧ cs_vf S v 1 = nI (sp_cnt (T.take v) e.1) ∧ S.2.2.1 8 (e.1 * 300 + sp_cnt (T.take v) e.1) = some v
/-- the stock is fresh: it holds the table up to the horizon -/
def st_fin (g : sp_G) (p : List sp_E × Nat) (S : cs_S) : Prop := cs_g S g ∧ st_fix S ∧ st_K S p.1 ∧ sp_wT p.1 ∧ sp_srt p.1 ∧ sp_le p.1 p.2 ∧ st_ends S p.1 p.2 ∧ p.2 ≤ 8 ∧ S.1 6 = nI p.2 ∧ S.1 7 = 1
def st_sf (S S' : cs_S) : Prop := (∀ i, i ≠ 4 → i ≠ 5 → i ≠ 6 → i ≠ 7 → S'.1 i = S.1 i) ∧ (∀ i, i ≠ 9 → i ≠ 10 → S'.2.1 i = S.2.1 i) ∧ (∀ i, i ≠ 8 → S'.2.2.1 i = S.2.2.1 i) ∧ (∀ v, 304 ≤ v → cs_vf S' v = cs_vf S v ∧ cs_vn S' v = cs_vn S v ∧ cs_vp S' v = cs_vp S v) ∧ S'.2.2.2.2.2.2 = S.2.2.2.2.2.2
theorem st_sf_rfl (S : cs_S) : st_sf S S := ⟨fun _ _ _ _ _ => rfl, fun _ _ _ => rfl, fun _ _ => rfl, fun _ _ => ⟨rfl, rfl, rfl⟩, rfl⟩
theorem st_sf_tr {S1 S2 S3 : cs_S} (h1 : st_sf S1 S2) (h2 : st_sf S2 S3) : st_sf S1 S3 :=
  ⟨fun i a b c d => (h2.1 i a b c d).trans (h1.1 i a b c d), fun i a b => (h2.2.1 i a b).trans (h1.2.1 i a b), fun i a => (h2.2.2.1 i a).trans (h1.2.2.1 i a), fun v a => ⟨(h2.2.2.2.1 v a).1.trans (h1.2.2.2.1 v a).1, (h2.2.2.2.1 v a).2.1.trans (h1.2.2.2.1 v a).2.1, (h2.2.2.2.1 v a).2.2.trans (h1.2.2.2.1 v a).2.2⟩, h2.2.2.2.2.trans h1.2.2.2.2⟩
theorem st_sf_of {S S' : cs_S} (h : st_sm S S') : st_sf S S' := ⟨fun i a b _ _ => h.1 i a b, fun i a _ => h.2.1 i a, h.2.2.1, h.2.2.2.1, h.2.2.2.2⟩

theorem st_cl {s : Nat} {f : Nat → Int32} {k : Nat → Int32} (hs7 : s ≤ 7) : (∀ t, t < 4 → (upd (upd (upd (upd f (nI (0 + (s + 1))).toNatClampNeg (k 0)) (nI (9 + (s + 1))).toNatClampNeg (k 1)) (nI (18 + (s + 1))).toNatClampNeg (k 2)) (nI (27 + (s + 1))).toNatClampNeg (k 3)) (9 * t + (s + 1)) = k t) ∧ (∀ i, (∀ t, t < 4 → i ≠ 9 * t + (s + 1)) → (upd (upd (upd (upd f (nI (0 + (s + 1))).toNatClampNeg (k 0)) (nI (9 + (s + 1))).toNatClampNeg (k 1)) (nI (18 + (s + 1))).toNatClampNeg (k 2)) (nI (27 + (s + 1))).toNatClampNeg (k 3)) i = f i) := by
  rw [nI_clamp (by omega), nI_clamp (by omega), nI_clamp (by omega), nI_clamp (by omega)]
  refine ⟨fun t ht => ?_, fun i hi => ?_⟩
  · rcases (show t = 0 ∨ t = 1 ∨ t = 2 ∨ t = 3 by omega) with rfl | rfl | rfl | rfl
    · rw [pk_un (by omega), pk_un (by omega), pk_un (by omega), show 9 * 0 + (s + 1) = 0 + (s + 1) by omega, pk_us]
    · rw [pk_un (by omega), pk_un (by omega), show 9 * 1 + (s + 1) = 9 + (s + 1) by omega, pk_us]
    · rw [pk_un (by omega), show 9 * 2 + (s + 1) = 18 + (s + 1) by omega, pk_us]
    · rw [show 9 * 3 + (s + 1) = 27 + (s + 1) by omega, pk_us]
  · have h0 := hi 0 (by omega)
    have h1 := hi 1 (by omega)
    have h2 := hi 2 (by omega)
    have h3 := hi 3 (by omega)
    rw [pk_un (by omega), pk_un (by omega), pk_un (by omega), pk_un (by omega)]
set_option maxRecDepth 100000 in
set_option maxHeartbeats 4000000 in
theorem ch_closeR {G : ax_G} {ad : cs_K → Nat} (hi : cs_inj ad) (d : Nat) (S : cs_S) (h : ax_H) {T : List sp_E} {s : Nat} (hs7 : s ≤ 7) (h5 : S.1 5 = 0) (hk : ∀ t, t < 4 → S.2.1 9 t = nI (sp_cnt T t)) {Q : ax_P} (hQ : ∀ (f : Nat → Int32) (S' : cs_S), ((∀ t, t < 4 → f (9 * t + (s + 1)) = (fun t => nI (sp_cnt T t)) t) ∧ ∀ i, (∀ t, t < 4 → i ≠ 9 * t + (s + 1)) → f i = S.2.1 10 i) → S' = cs_setS (cs_setA (cs_setA (cs_setA (cs_setA S 10 (upd (S.2.1 10) (nI (0 + (s + 1))).toNatClampNeg (nI (sp_cnt T 0)))) 10 (upd (upd (S.2.1 10) (nI (0 + (s + 1))).toNatClampNeg (nI (sp_cnt T 0))) (nI (9 + (s + 1))).toNatClampNeg (nI (sp_cnt T 1)))) 10 (upd (upd (upd (S.2.1 10) (nI (0 + (s + 1))).toNatClampNeg (nI (sp_cnt T 0))) (nI (9 + (s + 1))).toNatClampNeg (nI (sp_cnt T 1))) (nI (18 + (s + 1))).toNatClampNeg (nI (sp_cnt T 2)))) 10 f) 6 (nI (s + 1)) → Q (.inl none) (cs_O ad S' h)) :
    AW G mX3_closeSize d 0 0 Q 0 [(0, .ref (ad (0, 6))), (1, .int (nI (s + 1)))] [] (cs_O ad S h) 0 0 := by
  refine ax_iconst (v := 0) dX3_closeSize_0 (by decide) ?_
  refine ax_istore_n dX3_closeSize_1 (by decide) ?_
  refine ax_sub (lv' := [(0, .ref (ad (0, 6))), (1, .int (nI (s + 1))), (2, .int 0)]) (fun _ z => z) ?_
  refine ax_iload_n dX3_closeSize_2 rfl ?_
  refine ax_iconst (v := 4) dX3_closeSize_3 (by decide) ?_
  refine ax_icmp_ge (tgt := 54) dX3_closeSize_4 (by decide) (fun z => absurd z (by decide)) (fun _ => ?_)
  refine ax_aload_n dX3_closeSize_7 rfl ?_
  refine ax_get (v := .int 0) dX3_closeSize_8 fkX3_39 (cs_get hi (cs_k0 (by decide))) (congrArg (fun z => some (Value.int z)) (h5)) ?_
  refine ax_if_eq (tgt := 31) dX3_closeSize_11 (by decide) (fun _ => ?_) (fun z => absurd rfl z)
  refine ax_aload_n dX3_closeSize_31 rfl ?_
  refine ax_get (v := .ref (ad (0, 10))) dX3_closeSize_32 fkX3_29 (cs_get hi (cs_k0 (by decide))) rfl ?_
  refine ax_iload_n dX3_closeSize_35 rfl ?_
  refine ax_bipush (v := 9) dX3_closeSize_36 (by decide) ?_
  refine ax_imul dX3_closeSize_38 ?_
  refine ax_top (y := (nI 0)) (by decide) ?_
  refine ax_iload_n dX3_closeSize_39 rfl ?_
  refine ax_iadd dX3_closeSize_40 ?_
  refine ax_top (y := (nI (0 + (s + 1)))) (nI_add _ _) ?_
  refine ax_aload_n dX3_closeSize_41 rfl ?_
  refine ax_get (v := .ref (ad (0, 9))) dX3_closeSize_42 fkX3_25 (cs_get hi (cs_k0 (by decide))) rfl ?_
  refine ax_iload_n dX3_closeSize_45 rfl ?_
  refine ax_ialdv (x := (nI (sp_cnt T 0))) dX3_closeSize_46 (cs_get hi (cs_k0 (by decide))) (by unfold vp_in; decide) (hk 0 (by decide)) ?_
  refine ax_iast dX3_closeSize_47 (cs_get hi (cs_k0 (by decide))) (pk_in (0 + (s + 1)) 36 (by omega)) ?_
  refine ax_eqh (cs_pa10 hi) ?_
  refine ax_iinc (v := 1) dX3_closeSize_48 rfl (by decide) (by decide) ?_
  refine ax_sub (lv' := [(0, .ref (ad (0, 6))), (1, .int (nI (s + 1))), (2, .int 1)]) (fun _ z => z) ?_
  refine ax_goto (tgt := 2) dX3_closeSize_51 (by decide) ?_
  refine ax_iload_n dX3_closeSize_2 rfl ?_
  refine ax_iconst (v := 4) dX3_closeSize_3 (by decide) ?_
  refine ax_icmp_ge (tgt := 54) dX3_closeSize_4 (by decide) (fun z => absurd z (by decide)) (fun _ => ?_)
  refine ax_aload_n dX3_closeSize_7 rfl ?_
  refine ax_get (v := .int 0) dX3_closeSize_8 fkX3_39 (cs_get hi (cs_k0 (by decide))) (congrArg (fun z => some (Value.int z)) (h5)) ?_
  refine ax_if_eq (tgt := 31) dX3_closeSize_11 (by decide) (fun _ => ?_) (fun z => absurd rfl z)
  refine ax_aload_n dX3_closeSize_31 rfl ?_
  refine ax_get (v := .ref (ad (0, 10))) dX3_closeSize_32 fkX3_29 (cs_get hi (cs_k0 (by decide))) rfl ?_
  refine ax_iload_n dX3_closeSize_35 rfl ?_
  refine ax_bipush (v := 9) dX3_closeSize_36 (by decide) ?_
  refine ax_imul dX3_closeSize_38 ?_
  refine ax_top (y := (nI 9)) (by decide) ?_
  refine ax_iload_n dX3_closeSize_39 rfl ?_
  refine ax_iadd dX3_closeSize_40 ?_
  refine ax_top (y := (nI (9 + (s + 1)))) (nI_add _ _) ?_
  refine ax_aload_n dX3_closeSize_41 rfl ?_
  refine ax_get (v := .ref (ad (0, 9))) dX3_closeSize_42 fkX3_25 (cs_get hi (cs_k0 (by decide))) rfl ?_
  refine ax_iload_n dX3_closeSize_45 rfl ?_
  refine ax_ialdv (x := (nI (sp_cnt T 1))) dX3_closeSize_46 (cs_get hi (cs_k0 (by decide))) (by unfold vp_in; decide) (hk 1 (by decide)) ?_
  refine ax_iast dX3_closeSize_47 (cs_get hi (cs_k0 (by decide))) (pk_in (9 + (s + 1)) 36 (by omega)) ?_
  refine ax_eqh (cs_pa10 hi) ?_
  refine ax_iinc (v := 2) dX3_closeSize_48 rfl (by decide) (by decide) ?_
  refine ax_sub (lv' := [(0, .ref (ad (0, 6))), (1, .int (nI (s + 1))), (2, .int 2)]) (fun _ z => z) ?_
  refine ax_goto (tgt := 2) dX3_closeSize_51 (by decide) ?_
  refine ax_iload_n dX3_closeSize_2 rfl ?_
  refine ax_iconst (v := 4) dX3_closeSize_3 (by decide) ?_
  refine ax_icmp_ge (tgt := 54) dX3_closeSize_4 (by decide) (fun z => absurd z (by decide)) (fun _ => ?_)
  refine ax_aload_n dX3_closeSize_7 rfl ?_
  refine ax_get (v := .int 0) dX3_closeSize_8 fkX3_39 (cs_get hi (cs_k0 (by decide))) (congrArg (fun z => some (Value.int z)) (h5)) ?_
  refine ax_if_eq (tgt := 31) dX3_closeSize_11 (by decide) (fun _ => ?_) (fun z => absurd rfl z)
  refine ax_aload_n dX3_closeSize_31 rfl ?_
  refine ax_get (v := .ref (ad (0, 10))) dX3_closeSize_32 fkX3_29 (cs_get hi (cs_k0 (by decide))) rfl ?_
  refine ax_iload_n dX3_closeSize_35 rfl ?_
  refine ax_bipush (v := 9) dX3_closeSize_36 (by decide) ?_
  refine ax_imul dX3_closeSize_38 ?_
  refine ax_top (y := (nI 18)) (by decide) ?_
  refine ax_iload_n dX3_closeSize_39 rfl ?_
  refine ax_iadd dX3_closeSize_40 ?_
  refine ax_top (y := (nI (18 + (s + 1)))) (nI_add _ _) ?_
  refine ax_aload_n dX3_closeSize_41 rfl ?_
  refine ax_get (v := .ref (ad (0, 9))) dX3_closeSize_42 fkX3_25 (cs_get hi (cs_k0 (by decide))) rfl ?_
  refine ax_iload_n dX3_closeSize_45 rfl ?_
  refine ax_ialdv (x := (nI (sp_cnt T 2))) dX3_closeSize_46 (cs_get hi (cs_k0 (by decide))) (by unfold vp_in; decide) (hk 2 (by decide)) ?_
  refine ax_iast dX3_closeSize_47 (cs_get hi (cs_k0 (by decide))) (pk_in (18 + (s + 1)) 36 (by omega)) ?_
  refine ax_eqh (cs_pa10 hi) ?_
  refine ax_iinc (v := 3) dX3_closeSize_48 rfl (by decide) (by decide) ?_
  refine ax_sub (lv' := [(0, .ref (ad (0, 6))), (1, .int (nI (s + 1))), (2, .int 3)]) (fun _ z => z) ?_
  refine ax_goto (tgt := 2) dX3_closeSize_51 (by decide) ?_
  refine ax_iload_n dX3_closeSize_2 rfl ?_
  refine ax_iconst (v := 4) dX3_closeSize_3 (by decide) ?_
  refine ax_icmp_ge (tgt := 54) dX3_closeSize_4 (by decide) (fun z => absurd z (by decide)) (fun _ => ?_)
  refine ax_aload_n dX3_closeSize_7 rfl ?_
  refine ax_get (v := .int 0) dX3_closeSize_8 fkX3_39 (cs_get hi (cs_k0 (by decide))) (congrArg (fun z => some (Value.int z)) (h5)) ?_
  refine ax_if_eq (tgt := 31) dX3_closeSize_11 (by decide) (fun _ => ?_) (fun z => absurd rfl z)
  refine ax_aload_n dX3_closeSize_31 rfl ?_
  refine ax_get (v := .ref (ad (0, 10))) dX3_closeSize_32 fkX3_29 (cs_get hi (cs_k0 (by decide))) rfl ?_
  refine ax_iload_n dX3_closeSize_35 rfl ?_
  refine ax_bipush (v := 9) dX3_closeSize_36 (by decide) ?_
  refine ax_imul dX3_closeSize_38 ?_
  refine ax_top (y := (nI 27)) (by decide) ?_
  refine ax_iload_n dX3_closeSize_39 rfl ?_
  refine ax_iadd dX3_closeSize_40 ?_
  refine ax_top (y := (nI (27 + (s + 1)))) (nI_add _ _) ?_
  refine ax_aload_n dX3_closeSize_41 rfl ?_
  refine ax_get (v := .ref (ad (0, 9))) dX3_closeSize_42 fkX3_25 (cs_get hi (cs_k0 (by decide))) rfl ?_
  refine ax_iload_n dX3_closeSize_45 rfl ?_
  refine ax_ialdv (x := (nI (sp_cnt T 3))) dX3_closeSize_46 (cs_get hi (cs_k0 (by decide))) (by unfold vp_in; decide) (hk 3 (by decide)) ?_
  refine ax_iast dX3_closeSize_47 (cs_get hi (cs_k0 (by decide))) (pk_in (27 + (s + 1)) 36 (by omega)) ?_
  refine ax_eqh (cs_pa10 hi) ?_
  refine ax_iinc (v := 4) dX3_closeSize_48 rfl (by decide) (by decide) ?_
  refine ax_sub (lv' := [(0, .ref (ad (0, 6))), (1, .int (nI (s + 1))), (2, .int 4)]) (fun _ z => z) ?_
  refine ax_goto (tgt := 2) dX3_closeSize_51 (by decide) ?_
  refine ax_iload_n dX3_closeSize_2 rfl ?_
  refine ax_iconst (v := 4) dX3_closeSize_3 (by decide) ?_
  refine ax_icmp_ge (tgt := 54) dX3_closeSize_4 (by decide) (fun _ => ?_) (fun z => absurd (by decide) z)
  refine ax_aload_n dX3_closeSize_54 rfl ?_
  refine ax_get (v := .int 0) dX3_closeSize_55 fkX3_39 (cs_get hi (cs_k0 (by decide))) (congrArg (fun z => some (Value.int z)) (h5)) ?_
  refine ax_if_ne (tgt := 66) dX3_closeSize_58 (by decide) (fun z => absurd rfl z) (fun _ => ?_)
  refine ax_aload_n dX3_closeSize_61 rfl ?_
  refine ax_iload_n dX3_closeSize_62 rfl ?_
  refine ax_put dX3_closeSize_63 fpX3_43 (cs_get hi (cs_k0 (by decide))) rfl rfl (Nat.le_of_ble_eq_true rfl) ?_
  refine ax_eqh (cs_ps6 hi) ?_
  exact ax_vret (st := []) dX3_closeSize_66 rfl (hQ _ _ (st_cl hs7) rfl)
set_option maxRecDepth 100000 in
set_option maxHeartbeats 4000000 in
theorem ch_closeF {G : ax_G} {ad : cs_K → Nat} (hi : cs_inj ad) (d : Nat) (S : cs_S) (h : ax_H) {T0 : List sp_E} {s : Nat} (hs7 : s ≤ 7) (h5 : S.1 5 = 1) (he : st_ends S T0 s) {Q : ax_P} (hQ : ∀ (S' : cs_S), (∀ t, t < 4 → S'.2.1 9 t = nI (sp_upto T0 t s)) → S' = (cs_setA (cs_setA (cs_setA (cs_setA S 9 (upd (S.2.1 9) 0 (nI (sp_upto T0 0 s)))) 9 (upd (upd (S.2.1 9) 0 (nI (sp_upto T0 0 s))) 1 (nI (sp_upto T0 1 s)))) 9 (upd (upd (upd (S.2.1 9) 0 (nI (sp_upto T0 0 s))) 1 (nI (sp_upto T0 1 s))) 2 (nI (sp_upto T0 2 s)))) 9 (upd (upd (upd (upd (S.2.1 9) 0 (nI (sp_upto T0 0 s))) 1 (nI (sp_upto T0 1 s))) 2 (nI (sp_upto T0 2 s))) 3 (nI (sp_upto T0 3 s)))) → Q (.inl none) (cs_O ad S' h)) :
    AW G mX3_closeSize (d + 1) 0 0 Q 0 [(0, .ref (ad (0, 6))), (1, .int (nI (s + 1)))] [] (cs_O ad S h) 0 0 := by
  refine ax_iconst (v := 0) dX3_closeSize_0 (by decide) ?_
  refine ax_istore_n dX3_closeSize_1 (by decide) ?_
  refine ax_sub (lv' := [(0, .ref (ad (0, 6))), (1, .int (nI (s + 1))), (2, .int 0)]) (fun _ z => z) ?_
  refine ax_iload_n dX3_closeSize_2 rfl ?_
  refine ax_iconst (v := 4) dX3_closeSize_3 (by decide) ?_
  refine ax_icmp_ge (tgt := 54) dX3_closeSize_4 (by decide) (fun z => absurd z (by decide)) (fun _ => ?_)
  refine ax_aload_n dX3_closeSize_7 rfl ?_
  refine ax_get (v := .int 1) dX3_closeSize_8 fkX3_39 (cs_get hi (cs_k0 (by decide))) (congrArg (fun z => some (Value.int z)) (h5)) ?_
  refine ax_if_eq (tgt := 31) dX3_closeSize_11 (by decide) (fun z => absurd z (by decide)) (fun _ => ?_)
  refine ax_aload_n dX3_closeSize_14 rfl ?_
  refine ax_get (v := .ref (ad (0, 9))) dX3_closeSize_15 fkX3_25 (cs_get hi (cs_k0 (by decide))) rfl ?_
  refine ax_iload_n dX3_closeSize_18 rfl ?_
  refine ax_aload_n dX3_closeSize_19 rfl ?_
  refine ax_iload_n dX3_closeSize_20 rfl ?_
  refine ax_iload_n dX3_closeSize_21 rfl ?_
  refine ax_iconst (v := 1) dX3_closeSize_22 (by decide) ?_
  refine ax_isub dX3_closeSize_23 ?_
  refine ax_top (y := (nI s)) (nI_pred s) ?_
  refine ax_callV (b := (ad (0, 6))) (av := [.int 0, .int (nI s)]) (rest := [.int 0, .ref (ad (0, 9))]) (mc' := 0) (ms' := 0) dX3_closeSize_24 rfl lkX3_55 (cs_get hi (cs_k0 (by decide))) rfl (Nat.le_of_ble_eq_true rfl) (Nat.le_of_ble_eq_true rfl) (Nat.le_refl 0) (Nat.le_refl 0) (cv_upTo hi _ S h (t := 0) (z := s) (by decide) (by omega)) (fun E9 h9 q9 => by cases q9.1) (fun v9 h9 q9 => ?_)
  obtain ⟨e9, rfl⟩ := q9
  cases e9
  rw [show S.2.1 10 (9 * 0 + s) = nI (sp_upto T0 0 s) from he 0 s (by decide) (Nat.le_refl _)]
  show AW G mX3_closeSize (d + 1) 0 0 Q 27 [(0, .ref (ad (0, 6))), (1, .int (nI (s + 1))), (2, .int 0)] [.int (nI (sp_upto T0 0 s)), .int 0, .ref (ad (0, 9))] (cs_O ad S h) 0 0
  refine ax_iast dX3_closeSize_27 (cs_get hi (cs_k0 (by decide))) (by unfold vp_in; decide) ?_
  refine ax_eqh (cs_pa9 hi) ?_
  refine ax_goto (tgt := 48) dX3_closeSize_28 (by decide) ?_
  refine ax_iinc (v := 1) dX3_closeSize_48 rfl (by decide) (by decide) ?_
  refine ax_sub (lv' := [(0, .ref (ad (0, 6))), (1, .int (nI (s + 1))), (2, .int 1)]) (fun _ z => z) ?_
  refine ax_goto (tgt := 2) dX3_closeSize_51 (by decide) ?_
  refine ax_iload_n dX3_closeSize_2 rfl ?_
  refine ax_iconst (v := 4) dX3_closeSize_3 (by decide) ?_
  refine ax_icmp_ge (tgt := 54) dX3_closeSize_4 (by decide) (fun z => absurd z (by decide)) (fun _ => ?_)
  refine ax_aload_n dX3_closeSize_7 rfl ?_
  refine ax_get (v := .int 1) dX3_closeSize_8 fkX3_39 (cs_get hi (cs_k0 (by decide))) (congrArg (fun z => some (Value.int z)) (h5)) ?_
  refine ax_if_eq (tgt := 31) dX3_closeSize_11 (by decide) (fun z => absurd z (by decide)) (fun _ => ?_)
  refine ax_aload_n dX3_closeSize_14 rfl ?_
  refine ax_get (v := .ref (ad (0, 9))) dX3_closeSize_15 fkX3_25 (cs_get hi (cs_k0 (by decide))) rfl ?_
  refine ax_iload_n dX3_closeSize_18 rfl ?_
  refine ax_aload_n dX3_closeSize_19 rfl ?_
  refine ax_iload_n dX3_closeSize_20 rfl ?_
  refine ax_iload_n dX3_closeSize_21 rfl ?_
  refine ax_iconst (v := 1) dX3_closeSize_22 (by decide) ?_
  refine ax_isub dX3_closeSize_23 ?_
  refine ax_top (y := (nI s)) (nI_pred s) ?_
  refine ax_callV (b := (ad (0, 6))) (av := [.int 1, .int (nI s)]) (rest := [.int 1, .ref (ad (0, 9))]) (mc' := 0) (ms' := 0) dX3_closeSize_24 rfl lkX3_55 (cs_get hi (cs_k0 (by decide))) rfl (Nat.le_of_ble_eq_true rfl) (Nat.le_of_ble_eq_true rfl) (Nat.le_refl 0) (Nat.le_refl 0) (cv_upTo hi _ (cs_setA S 9 (upd (S.2.1 9) 0 (nI (sp_upto T0 0 s)))) h (t := 1) (z := s) (by decide) (by omega)) (fun E9 h9 q9 => by cases q9.1) (fun v9 h9 q9 => ?_)
  obtain ⟨e9, rfl⟩ := q9
  cases e9
  rw [show (cs_setA S 9 (upd (S.2.1 9) 0 (nI (sp_upto T0 0 s)))).2.1 10 (9 * 1 + s) = nI (sp_upto T0 1 s) from he 1 s (by decide) (Nat.le_refl _)]
  show AW G mX3_closeSize (d + 1) 0 0 Q 27 [(0, .ref (ad (0, 6))), (1, .int (nI (s + 1))), (2, .int 1)] [.int (nI (sp_upto T0 1 s)), .int 1, .ref (ad (0, 9))] (cs_O ad (cs_setA S 9 (upd (S.2.1 9) 0 (nI (sp_upto T0 0 s)))) h) 0 0
  refine ax_iast dX3_closeSize_27 (cs_get hi (cs_k0 (by decide))) (by unfold vp_in; decide) ?_
  refine ax_eqh (cs_pa9 hi) ?_
  refine ax_goto (tgt := 48) dX3_closeSize_28 (by decide) ?_
  refine ax_iinc (v := 2) dX3_closeSize_48 rfl (by decide) (by decide) ?_
  refine ax_sub (lv' := [(0, .ref (ad (0, 6))), (1, .int (nI (s + 1))), (2, .int 2)]) (fun _ z => z) ?_
  refine ax_goto (tgt := 2) dX3_closeSize_51 (by decide) ?_
  refine ax_iload_n dX3_closeSize_2 rfl ?_
  refine ax_iconst (v := 4) dX3_closeSize_3 (by decide) ?_
  refine ax_icmp_ge (tgt := 54) dX3_closeSize_4 (by decide) (fun z => absurd z (by decide)) (fun _ => ?_)
  refine ax_aload_n dX3_closeSize_7 rfl ?_
  refine ax_get (v := .int 1) dX3_closeSize_8 fkX3_39 (cs_get hi (cs_k0 (by decide))) (congrArg (fun z => some (Value.int z)) (h5)) ?_
  refine ax_if_eq (tgt := 31) dX3_closeSize_11 (by decide) (fun z => absurd z (by decide)) (fun _ => ?_)
  refine ax_aload_n dX3_closeSize_14 rfl ?_
  refine ax_get (v := .ref (ad (0, 9))) dX3_closeSize_15 fkX3_25 (cs_get hi (cs_k0 (by decide))) rfl ?_
  refine ax_iload_n dX3_closeSize_18 rfl ?_
  refine ax_aload_n dX3_closeSize_19 rfl ?_
  refine ax_iload_n dX3_closeSize_20 rfl ?_
  refine ax_iload_n dX3_closeSize_21 rfl ?_
  refine ax_iconst (v := 1) dX3_closeSize_22 (by decide) ?_
  refine ax_isub dX3_closeSize_23 ?_
  refine ax_top (y := (nI s)) (nI_pred s) ?_
  refine ax_callV (b := (ad (0, 6))) (av := [.int 2, .int (nI s)]) (rest := [.int 2, .ref (ad (0, 9))]) (mc' := 0) (ms' := 0) dX3_closeSize_24 rfl lkX3_55 (cs_get hi (cs_k0 (by decide))) rfl (Nat.le_of_ble_eq_true rfl) (Nat.le_of_ble_eq_true rfl) (Nat.le_refl 0) (Nat.le_refl 0) (cv_upTo hi _ (cs_setA (cs_setA S 9 (upd (S.2.1 9) 0 (nI (sp_upto T0 0 s)))) 9 (upd (upd (S.2.1 9) 0 (nI (sp_upto T0 0 s))) 1 (nI (sp_upto T0 1 s)))) h (t := 2) (z := s) (by decide) (by omega)) (fun E9 h9 q9 => by cases q9.1) (fun v9 h9 q9 => ?_)
  obtain ⟨e9, rfl⟩ := q9
  cases e9
  rw [show (cs_setA (cs_setA S 9 (upd (S.2.1 9) 0 (nI (sp_upto T0 0 s)))) 9 (upd (upd (S.2.1 9) 0 (nI (sp_upto T0 0 s))) 1 (nI (sp_upto T0 1 s)))).2.1 10 (9 * 2 + s) = nI (sp_upto T0 2 s) from he 2 s (by decide) (Nat.le_refl _)]
  show AW G mX3_closeSize (d + 1) 0 0 Q 27 [(0, .ref (ad (0, 6))), (1, .int (nI (s + 1))), (2, .int 2)] [.int (nI (sp_upto T0 2 s)), .int 2, .ref (ad (0, 9))] (cs_O ad (cs_setA (cs_setA S 9 (upd (S.2.1 9) 0 (nI (sp_upto T0 0 s)))) 9 (upd (upd (S.2.1 9) 0 (nI (sp_upto T0 0 s))) 1 (nI (sp_upto T0 1 s)))) h) 0 0
  refine ax_iast dX3_closeSize_27 (cs_get hi (cs_k0 (by decide))) (by unfold vp_in; decide) ?_
  refine ax_eqh (cs_pa9 hi) ?_
  refine ax_goto (tgt := 48) dX3_closeSize_28 (by decide) ?_
  refine ax_iinc (v := 3) dX3_closeSize_48 rfl (by decide) (by decide) ?_
  refine ax_sub (lv' := [(0, .ref (ad (0, 6))), (1, .int (nI (s + 1))), (2, .int 3)]) (fun _ z => z) ?_
  refine ax_goto (tgt := 2) dX3_closeSize_51 (by decide) ?_
  refine ax_iload_n dX3_closeSize_2 rfl ?_
  refine ax_iconst (v := 4) dX3_closeSize_3 (by decide) ?_
  refine ax_icmp_ge (tgt := 54) dX3_closeSize_4 (by decide) (fun z => absurd z (by decide)) (fun _ => ?_)
  refine ax_aload_n dX3_closeSize_7 rfl ?_
  refine ax_get (v := .int 1) dX3_closeSize_8 fkX3_39 (cs_get hi (cs_k0 (by decide))) (congrArg (fun z => some (Value.int z)) (h5)) ?_
  refine ax_if_eq (tgt := 31) dX3_closeSize_11 (by decide) (fun z => absurd z (by decide)) (fun _ => ?_)
  refine ax_aload_n dX3_closeSize_14 rfl ?_
  refine ax_get (v := .ref (ad (0, 9))) dX3_closeSize_15 fkX3_25 (cs_get hi (cs_k0 (by decide))) rfl ?_
  refine ax_iload_n dX3_closeSize_18 rfl ?_
  refine ax_aload_n dX3_closeSize_19 rfl ?_
  refine ax_iload_n dX3_closeSize_20 rfl ?_
  refine ax_iload_n dX3_closeSize_21 rfl ?_
  refine ax_iconst (v := 1) dX3_closeSize_22 (by decide) ?_
  refine ax_isub dX3_closeSize_23 ?_
  refine ax_top (y := (nI s)) (nI_pred s) ?_
  refine ax_callV (b := (ad (0, 6))) (av := [.int 3, .int (nI s)]) (rest := [.int 3, .ref (ad (0, 9))]) (mc' := 0) (ms' := 0) dX3_closeSize_24 rfl lkX3_55 (cs_get hi (cs_k0 (by decide))) rfl (Nat.le_of_ble_eq_true rfl) (Nat.le_of_ble_eq_true rfl) (Nat.le_refl 0) (Nat.le_refl 0) (cv_upTo hi _ (cs_setA (cs_setA (cs_setA S 9 (upd (S.2.1 9) 0 (nI (sp_upto T0 0 s)))) 9 (upd (upd (S.2.1 9) 0 (nI (sp_upto T0 0 s))) 1 (nI (sp_upto T0 1 s)))) 9 (upd (upd (upd (S.2.1 9) 0 (nI (sp_upto T0 0 s))) 1 (nI (sp_upto T0 1 s))) 2 (nI (sp_upto T0 2 s)))) h (t := 3) (z := s) (by decide) (by omega)) (fun E9 h9 q9 => by cases q9.1) (fun v9 h9 q9 => ?_)
  obtain ⟨e9, rfl⟩ := q9
  cases e9
  rw [show (cs_setA (cs_setA (cs_setA S 9 (upd (S.2.1 9) 0 (nI (sp_upto T0 0 s)))) 9 (upd (upd (S.2.1 9) 0 (nI (sp_upto T0 0 s))) 1 (nI (sp_upto T0 1 s)))) 9 (upd (upd (upd (S.2.1 9) 0 (nI (sp_upto T0 0 s))) 1 (nI (sp_upto T0 1 s))) 2 (nI (sp_upto T0 2 s)))).2.1 10 (9 * 3 + s) = nI (sp_upto T0 3 s) from he 3 s (by decide) (Nat.le_refl _)]
  show AW G mX3_closeSize (d + 1) 0 0 Q 27 [(0, .ref (ad (0, 6))), (1, .int (nI (s + 1))), (2, .int 3)] [.int (nI (sp_upto T0 3 s)), .int 3, .ref (ad (0, 9))] (cs_O ad (cs_setA (cs_setA (cs_setA S 9 (upd (S.2.1 9) 0 (nI (sp_upto T0 0 s)))) 9 (upd (upd (S.2.1 9) 0 (nI (sp_upto T0 0 s))) 1 (nI (sp_upto T0 1 s)))) 9 (upd (upd (upd (S.2.1 9) 0 (nI (sp_upto T0 0 s))) 1 (nI (sp_upto T0 1 s))) 2 (nI (sp_upto T0 2 s)))) h) 0 0
  refine ax_iast dX3_closeSize_27 (cs_get hi (cs_k0 (by decide))) (by unfold vp_in; decide) ?_
  refine ax_eqh (cs_pa9 hi) ?_
  refine ax_goto (tgt := 48) dX3_closeSize_28 (by decide) ?_
  refine ax_iinc (v := 4) dX3_closeSize_48 rfl (by decide) (by decide) ?_
  refine ax_sub (lv' := [(0, .ref (ad (0, 6))), (1, .int (nI (s + 1))), (2, .int 4)]) (fun _ z => z) ?_
  refine ax_goto (tgt := 2) dX3_closeSize_51 (by decide) ?_
  refine ax_iload_n dX3_closeSize_2 rfl ?_
  refine ax_iconst (v := 4) dX3_closeSize_3 (by decide) ?_
  refine ax_icmp_ge (tgt := 54) dX3_closeSize_4 (by decide) (fun _ => ?_) (fun z => absurd (by decide) z)
  refine ax_aload_n dX3_closeSize_54 rfl ?_
  refine ax_get (v := .int 1) dX3_closeSize_55 fkX3_39 (cs_get hi (cs_k0 (by decide))) (congrArg (fun z => some (Value.int z)) (h5)) ?_
  refine ax_if_ne (tgt := 66) dX3_closeSize_58 (by decide) (fun _ => ?_) (fun z => absurd z (by decide))
  refine ax_vret (st := []) dX3_closeSize_66 rfl (hQ _ (fun t ht => ?_) rfl)
  rcases (show t = 0 ∨ t = 1 ∨ t = 2 ∨ t = 3 by omega) with rfl | rfl | rfl | rfl <;> rfl
set_option maxRecDepth 100000 in
set_option maxHeartbeats 4000000 in
theorem rf_exit {G : ax_G} {ad : cs_K → Nat} (hi : cs_inj ad) (d : Nat) (S : cs_S) (h : ax_H) {y8 : Nat} (hz : y8 ≤ 100) (h9 : 8 < y8 ∨ S.1 5 = 1) {Q : ax_P} (hq : Q (.inl none) (cs_O ad (cs_setS S 7 1) h)) : AW G mX3_refresh (d + 13) 0 0 Q 45 [(0, .ref (ad (0, 6))), (1, .int (nI y8))] [] (cs_O ad S h) 0 0 := by
  by_cases hz8 : y8 ≤ 8
  · have h5 : S.1 5 = 1 := h9.resolve_left (by omega)
    refine ax_iload_n dX3_refresh_45 rfl ?_
    refine ax_bipush (v := 8) dX3_refresh_46 (by decide) ?_
    refine ax_icmp_gt (tgt := 74) dX3_refresh_48 (by decide) (fun z => absurd z (il_nlt 8 y8 hz8)) (fun _ => ?_)
    refine ax_aload_n dX3_refresh_51 rfl ?_
    refine ax_get (v := .int 1) dX3_refresh_52 fkX3_39 (cs_get hi (cs_k0 (by decide))) (congrArg (fun z => some (Value.int z)) (h5)) ?_
    refine ax_if_ne (tgt := 74) dX3_refresh_55 (by decide) (fun _ => ?_) (fun z => absurd z (by decide))
    refine ax_aload_n dX3_refresh_74 rfl ?_
    refine ax_iconst (v := 1) dX3_refresh_75 (by decide) ?_
    refine ax_put dX3_refresh_76 fpX3_46 (cs_get hi (cs_k0 (by decide))) rfl rfl (Nat.le_of_ble_eq_true rfl) ?_
    refine ax_eqh (cs_ps7 hi) ?_
    exact ax_vret (st := []) dX3_refresh_79 rfl hq
  · skip
    refine ax_iload_n dX3_refresh_45 rfl ?_
    refine ax_bipush (v := 8) dX3_refresh_46 (by decide) ?_
    refine ax_icmp_gt (tgt := 74) dX3_refresh_48 (by decide) (fun _ => ?_) (fun z => absurd (il_lt 8 y8 (by omega)) z)
    refine ax_aload_n dX3_refresh_74 rfl ?_
    refine ax_iconst (v := 1) dX3_refresh_75 (by decide) ?_
    refine ax_put dX3_refresh_76 fpX3_46 (cs_get hi (cs_k0 (by decide))) rfl rfl (Nat.le_of_ble_eq_true rfl) ?_
    refine ax_eqh (cs_ps7 hi) ?_
    exact ax_vret (st := []) dX3_refresh_79 rfl hq

set_option maxRecDepth 100000 in
set_option maxHeartbeats 4000000 in
theorem rf_turn {G : ax_G} {ad : cs_K → Nat} (hi : cs_inj ad) {g : sp_G} {T : List sp_E} {s : Nat} (hw : sp_wg g) (hs7 : s ≤ 7) (hl0 : T.length ≤ 300) (hsrt : sp_srt T) (d : Nat) (h : ax_H) {Q : ax_P} (S : cs_S) (hin : st_in g S T T s) (h5 : S.1 5 = 0) {R9 : cs_S → cs_S → Prop}
    (hcl : ∀ S1, st_ou2 g T s (sp_pushes (T, false) (sp_lvl g T s (List.range g.2.2.2.length))) S S1 → AW G mX3_closeSize (d + 12) 0 0 (fun r h1 => r = .inl none ∧ ∃ S', h1 = cs_O ad S' h ∧ R9 S1 S') 0 [(0, .ref (ad (0, 6))), (1, .int (nI (s + 1)))] [] (cs_O ad S1 h) 0 0)
    (k : ∀ S1 S2, st_ou2 g T s (sp_pushes (T, false) (sp_lvl g T s (List.range g.2.2.2.length))) S S1 → R9 S1 S2 → AW G mX3_refresh (d + 13) 0 0 Q 45 [(0, .ref (ad (0, 6))), (1, .int (nI (s + 1 + 1)))] [] (cs_O ad S2 h) 0 0) :
    AW G mX3_refresh (d + 13) 0 0 Q 45 [(0, .ref (ad (0, 6))), (1, .int (nI (s + 1)))] [] (cs_O ad S h) 0 0 := by
  refine ax_iload_n dX3_refresh_45 rfl ?_
  refine ax_bipush (v := 8) dX3_refresh_46 (by decide) ?_
  refine ax_icmp_gt (tgt := 74) dX3_refresh_48 (by decide) (fun z => absurd z (il_nlt 8 (s + 1) (by omega))) (fun _ => ?_)
  refine ax_aload_n dX3_refresh_51 rfl ?_
  refine ax_get (v := .int 0) dX3_refresh_52 fkX3_39 (cs_get hi (cs_k0 (by decide))) (congrArg (fun z => some (Value.int z)) (h5)) ?_
  refine ax_if_ne (tgt := 74) dX3_refresh_55 (by decide) (fun z => absurd rfl z) (fun _ => ?_)
  refine ax_aload_n dX3_refresh_58 rfl ?_
  refine ax_iload_n dX3_refresh_59 rfl ?_
  refine ax_callV (b := (ad (0, 6))) (av := [.int (nI (s + 1))]) (rest := []) (mc' := 0) (ms' := 0) dX3_refresh_60 rfl lkX3_67 (cs_get hi (cs_k0 (by decide))) rfl (Nat.le_of_ble_eq_true rfl) (Nat.le_of_ble_eq_true rfl) (Nat.le_refl 0) (Nat.le_refl 0) (ch_makeSize hi hw hs7 hl0 hsrt d h (Q := fun r h1 => r = .inl none ∧ ∃ S', h1 = cs_O ad S' h ∧ st_ou2 g T s (sp_pushes (T, false) (sp_lvl g T s (List.range g.2.2.2.length))) S S') S T hin h5 (fun S' o' => ⟨rfl, S', rfl, o'⟩)) (fun E9 h9 q9 => by cases q9.1) (fun v9 h9 q9 => ?_)
  obtain ⟨e9, S1, rfl, o1⟩ := q9
  cases e9
  show AW G mX3_refresh (d + 13) 0 0 Q 63 [(0, .ref (ad (0, 6))), (1, .int (nI (s + 1)))] [] (cs_O ad S1 h) 0 0
  refine ax_aload_n dX3_refresh_63 rfl ?_
  refine ax_iload_n dX3_refresh_64 rfl ?_
  refine ax_callV (b := (ad (0, 6))) (av := [.int (nI (s + 1))]) (rest := []) (mc' := 0) (ms' := 0) dX3_refresh_65 rfl lkX3_71 (cs_get hi (cs_k0 (by decide))) rfl (Nat.le_of_ble_eq_true rfl) (Nat.le_of_ble_eq_true rfl) (Nat.le_refl 0) (Nat.le_refl 0) (hcl S1 o1) (fun E9 h9 q9 => by cases q9.1) (fun v9 h9 q9 => ?_)
  obtain ⟨e9, S2, rfl, o2⟩ := q9
  cases e9
  show AW G mX3_refresh (d + 13) 0 0 Q 68 [(0, .ref (ad (0, 6))), (1, .int (nI (s + 1)))] [] (cs_O ad S2 h) 0 0
  refine ax_iinc (v := nI (s + 1 + 1)) dX3_refresh_68 rfl (nI_1 (s + 1)) (by decide) ?_
  refine ax_sub (lv' := [(0, .ref (ad (0, 6))), (1, .int (nI (s + 1 + 1)))]) (fun _ z => z) ?_
  refine ax_goto (tgt := 45) dX3_refresh_71 (by decide) ?_
  exact k S1 S2 o1 o2
theorem st_K_of {S : cs_S} {T : List sp_E} (h : st_T S T) : st_K S T := ⟨h.2.1, h.2.2⟩
theorem rf_loop {G : ax_G} {ad : cs_K → Nat} (hi : cs_inj ad) {g : sp_G} (hw : sp_wg g) (d : Nat) (h : ax_H) {Q : ax_P} : ∀ (j s : Nat) (S : cs_S) (T : List sp_E), s + j = 8 → st_in g S T T s → sp_srt T → sp_le T s → S.1 5 = 0 → S.1 6 = nI s → (∀ S', st_fin g (sp_mk g j T s) S' → st_sf S S' → Q (.inl none) (cs_O ad S' h)) →
    AW G mX3_refresh (d + 13) 0 0 Q 45 [(0, .ref (ad (0, 6))), (1, .int (nI (s + 1)))] [] (cs_O ad S h) 0 0 := by
  intro j
  induction j with
  | zero =>
    intro s S T hs hin hsrt hle h5 h6 hQ
    refine rf_exit hi d S h (by omega) (Or.inl (by omega)) (hQ _ ?_ ?_)
    · exact ⟨hin.1, hin.2.1, st_K_of hin.2.2.1, hin.2.2.2.1, hsrt, hle, hin.2.2.2.2.2, by show s ≤ 8; omega, h6, rfl⟩
    · exact ⟨fun i _ _ _ z => pk_un z, fun _ _ _ => rfl, fun _ _ => rfl, fun _ _ => ⟨rfl, rfl, rfl⟩, rfl⟩
  | succ j ih =>
    intro s S T hs hin hsrt hle h5 h6 hQ
    have hl0 : T.length ≤ 300 := hin.2.2.2.1.1
    have hsz := sp_lvl_size hw hsrt (s := s) (cs := List.range g.2.2.2.length)
    obtain ⟨r, hr1, hr2⟩ := sp_pushes_pre (T, false) (sp_lvl g T s (List.range g.2.2.2.length))
    have hr1 : (sp_pushes (T, false) (sp_lvl g T s (List.range g.2.2.2.length))).1 = T ++ r := hr1
    have hrs : ∀ e ∈ r, sp_sz e = s + 1 := fun e he => hsz e (hr2 e he)
    unfold sp_mk at hQ
    cases hp : (sp_pushes (T, false) (sp_lvl g T s (List.range g.2.2.2.length))).2 with
    | true =>
      rw [hp, if_pos rfl] at hQ
      refine rf_turn hi hw (by omega) hl0 hsrt d h S hin h5 (R9 := fun S1 S' => (∀ t, t < 4 → S'.2.1 9 t = nI (sp_upto T t s)) ∧ (S'.1 = S1.1 ∧ (∀ i, i ≠ 9 → S'.2.1 i = S1.2.1 i) ∧ S'.2.2 = S1.2.2)) (fun S1 o1 => ?_) (fun S1 S2 o1 o2 => ?_)
      · have h51 : S1.1 5 = 1 := by rw [o1.2.2, hp]; rfl
        refine ch_closeF hi (d + 11) S1 h (by omega) h51 o1.1.2.2.2.2.2 (fun S' q1 q2 => ⟨rfl, S', rfl, q1, ?_⟩)
        subst q2
        exact ⟨rfl, fun i z => by simp [cs_setA, va_up, z], rfl⟩
      · obtain ⟨k1, k2, k3, k4⟩ := o2
        have h51 : S2.1 5 = 1 := by rw [k2, o1.2.2, hp]; rfl
        refine rf_exit hi d S2 h (by omega) (Or.inr h51) (hQ _ ?_ ?_)
        · have hT := o1.1.2.2.1
          rw [hr1] at hT
          refine ⟨?_, ?_, ⟨fun t ht => ?_, fun v e he => ?_⟩, hin.2.2.2.1, hsrt, hle, fun t z ht hz => ?_, by show s ≤ 8; omega, ?_, rfl⟩
          · obtain ⟨a0, a1, a2, a3, a4⟩ := o1.1.1
            refine ⟨by show S2.1 0 = _; rw [k2]; exact a0, by show S2.1 1 = _; rw [k2]; exact a1, by show S2.1 2 = _; rw [k2]; exact a2, by show S2.1 3 = _; rw [k2]; exact a3, fun c q hc => ?_⟩
            obtain ⟨b1, b2, b3⟩ := a4 c q hc
            exact ⟨by show S2.2.1 2 c = _; rw [k3 2 (by decide)]; exact b1, fun k hk => ⟨by show S2.2.1 3 _ = _; rw [k3 3 (by decide)]; exact (b2 k hk).1, by show S2.2.1 4 _ = _; rw [k3 4 (by decide)]; exact (b2 k hk).2⟩, by show S2.2.1 5 c = _; rw [k3 5 (by decide)]; exact b3⟩
          · have := o1.1.2.1
            unfold st_fix
            show (∀ j, j < 300 → S2.2.2.1 7 j = _) ∧ (∀ j, j < 4 → S2.2.2.1 11 j = _) ∧ (∀ j, j < 8 → S2.2.2.1 14 j = _)
            rw [k4]; exact this
          · show S2.2.1 9 t = _
            rw [k1 t ht, sp_upto_all hle]
          · have hv := (List.getElem?_eq_some_iff.mp he).1
            have he2 : (T ++ r)[v]? = some e := by rw [List.getElem?_append_left hv]; exact he
            obtain ⟨b1, b2, b3⟩ := hT.2.2 v e he2
            rw [List.take_append_of_le_length (Nat.le_of_lt hv)] at b2 b3
            show sp_ok (S2.2.2.2.1 v) (S2.2.2.2.2.1 v) (S2.2.2.2.2.2.1 v) _ _ _ ∧ S2.2.2.2.1 v 1 = _ ∧ S2.2.2.1 8 _ = _
            rw [k4]; exact ⟨b1, b2, b3⟩
          · show S2.2.1 10 _ = _
            rw [k3 10 (by decide)]
            exact o1.1.2.2.2.2.2 t z ht hz
          · show S2.1 6 = _
            rw [k2, o1.2.1.1 6 (by decide) (by decide)]; exact h6
        · refine st_sf_tr (st_sf_of o1.2.1) ⟨fun i _ _ _ z => ?_, fun i z _ => k3 i z, fun i _ => ?_, fun v _ => ?_, ?_⟩
          · show upd S2.1 7 1 i = _
            rw [pk_un z, k2]
          · show S2.2.2.1 i = _
            rw [k4]
          · show S2.2.2.2.1 v = _ ∧ S2.2.2.2.2.1 v = _ ∧ S2.2.2.2.2.2.1 v = _
            rw [k4]; exact ⟨rfl, rfl, rfl⟩
          · show S2.2.2.2.2.2.2 = _
            rw [k4]
    | false =>
      rw [hp, if_neg (by decide)] at hQ
      have hle2 : sp_le (T ++ r) (s + 1) := fun e he => by
        rcases List.mem_append.mp he with z | z
        · have := hle e z; omega
        · rw [hrs e z]; exact Nat.le_refl _
      refine rf_turn hi hw (by omega) hl0 hsrt d h S hin h5 (R9 := fun S1 S' => ∃ f : Nat → Int32, ((∀ t, t < 4 → f (9 * t + (s + 1)) = (fun t => nI (sp_cnt (T ++ r) t)) t) ∧ ∀ i, (∀ t, t < 4 → i ≠ 9 * t + (s + 1)) → f i = S1.2.1 10 i) ∧ (S'.1 = upd S1.1 6 (nI (s + 1)) ∧ S'.2.1 10 = f ∧ (∀ i, i ≠ 10 → S'.2.1 i = S1.2.1 i) ∧ S'.2.2 = S1.2.2)) (fun S1 o1 => ?_) (fun S1 S2 o1 o2 => ?_)
      · have h51 : S1.1 5 = 0 := by rw [o1.2.2, hp]; rfl
        have hT := o1.1.2.2.1
        rw [hr1] at hT
        refine ch_closeR hi (d + 12) S1 h (by omega) h51 hT.2.1 (fun f S' q1 q2 => ⟨rfl, S', rfl, f, q1, ?_⟩)
        subst q2
        exact ⟨rfl, rfl, fun i z => by simp [cs_setS, cs_setA, va_up, z], rfl⟩
      · obtain ⟨f, ⟨f1, f2⟩, k1, k2, k3, k4⟩ := o2
        have hT := o1.1.2.2.1
        have hin1 := o1.1
        rw [hr1] at hT hin1 hQ
        refine ih (s + 1) S2 (T ++ r) (by omega) ?_ (sp_srt_app hsrt hle hrs) hle2 ?_ ?_ (fun S' g1 g2 => hQ S' g1 (st_sf_tr (st_sf_tr (st_sf_of o1.2.1) ?_) g2))
        · refine ⟨?_, ?_, ⟨?_, fun t ht => ?_, fun v e he => ?_⟩, hin1.2.2.2.1, List.prefix_refl _, fun t z ht hz => ?_⟩
          · obtain ⟨a0, a1, a2, a3, a4⟩ := hin1.1
            refine ⟨by rw [k1]; exact a0, by rw [k1]; exact a1, by rw [k1]; exact a2, by rw [k1]; exact a3, fun c q hc => ?_⟩
            obtain ⟨b1, b2, b3⟩ := a4 c q hc
            exact ⟨by rw [k3 2 (by decide)]; exact b1, fun k hk => ⟨by rw [k3 3 (by decide)]; exact (b2 k hk).1, by rw [k3 4 (by decide)]; exact (b2 k hk).2⟩, by rw [k3 5 (by decide)]; exact b3⟩
          · unfold st_fix
            rw [k4]; exact hin1.2.1
          · rw [k1]; exact hT.1
          · rw [k3 9 (by decide)]; exact hT.2.1 t ht
          · obtain ⟨b1, b2, b3⟩ := hT.2.2 v e he
            show sp_ok (S2.2.2.2.1 v) (S2.2.2.2.2.1 v) (S2.2.2.2.2.2.1 v) _ _ _ ∧ S2.2.2.2.1 v 1 = _ ∧ S2.2.2.1 8 _ = _
            rw [k4]; exact ⟨b1, b2, b3⟩
          · rw [k2]
            by_cases hz1 : z = s + 1
            · subst hz1
              rw [f1 t ht, sp_upto_all hle2]
            · rw [f2 _ (fun t' ht' => by omega), sp_upto_app hrs t z (by omega)]
              exact hin1.2.2.2.2.2 t z ht (by omega)
        · rw [k1]; show S1.1 5 = 0; rw [o1.2.2, hp]; rfl
        · rw [k1]; rfl
        · refine ⟨fun i _ _ z _ => by rw [k1]; exact pk_un z, fun i _ z => k3 i z, fun i _ => by rw [k4], fun v _ => ?_, by rw [k4]⟩
          show S2.2.2.2.1 v = _ ∧ S2.2.2.2.2.1 v = _ ∧ S2.2.2.2.2.2.1 v = _
          rw [k4]; exact ⟨rfl, rfl, rfl⟩

set_option maxRecDepth 100000 in
set_option maxHeartbeats 4000000 in
theorem ch_refresh0 {G : ax_G} {ad : cs_K → Nat} (hi : cs_inj ad) {g : sp_G} (hw : sp_wg g) (d : Nat) (h : ax_H) {Q : ax_P} (S : cs_S) (hg : cs_g S g) (hf : st_fix S) (he : ∀ t, t < 4 → S.2.1 10 (9 * t) = 0) (h7 : S.1 7 = 0) (hQ : ∀ S', st_fin g (sp_tab g) S' → st_sf S S' → Q (.inl none) (cs_O ad S' h)) : AW G mX3_refresh (d + 13) 0 0 Q 0 [(0, .ref (ad (0, 6)))] [] (cs_O ad S h) 0 0 := by
  refine ax_aload_n dX3_refresh_0 rfl ?_
  refine ax_get (v := .int 0) dX3_refresh_1 fkX3_46 (cs_get hi (cs_k0 (by decide))) (congrArg (fun z => some (Value.int z)) (h7)) ?_
  refine ax_if_eq (tgt := 8) dX3_refresh_4 (by decide) (fun _ => ?_) (fun z => absurd rfl z)
  refine ax_aload_n dX3_refresh_8 rfl ?_
  refine ax_iconst (v := 0) dX3_refresh_9 (by decide) ?_
  refine ax_put dX3_refresh_10 fpX3_35 (cs_get hi (cs_k0 (by decide))) rfl rfl (Nat.le_of_ble_eq_true rfl) ?_
  refine ax_eqh (cs_ps4 hi) ?_
  refine ax_aload_n dX3_refresh_13 rfl ?_
  refine ax_iconst (v := 0) dX3_refresh_14 (by decide) ?_
  refine ax_put dX3_refresh_15 fpX3_39 (cs_get hi (cs_k0 (by decide))) rfl rfl (Nat.le_of_ble_eq_true rfl) ?_
  refine ax_eqh (cs_ps5 hi) ?_
  refine ax_aload_n dX3_refresh_18 rfl ?_
  refine ax_iconst (v := 0) dX3_refresh_19 (by decide) ?_
  refine ax_put dX3_refresh_20 fpX3_43 (cs_get hi (cs_k0 (by decide))) rfl rfl (Nat.le_of_ble_eq_true rfl) ?_
  refine ax_eqh (cs_ps6 hi) ?_
  refine ax_iconst (v := 0) dX3_refresh_23 (by decide) ?_
  refine ax_istore_n dX3_refresh_24 (by decide) ?_
  refine ax_sub (lv' := [(0, .ref (ad (0, 6))), (1, .int 0)]) (fun _ z => z) ?_
  refine ax_iload_n dX3_refresh_25 rfl ?_
  refine ax_iconst (v := 4) dX3_refresh_26 (by decide) ?_
  refine ax_icmp_ge (tgt := 43) dX3_refresh_27 (by decide) (fun z => absurd z (by decide)) (fun _ => ?_)
  refine ax_aload_n dX3_refresh_30 rfl ?_
  refine ax_get (v := .ref (ad (0, 9))) dX3_refresh_31 fkX3_25 (cs_get hi (cs_k0 (by decide))) rfl ?_
  refine ax_iload_n dX3_refresh_34 rfl ?_
  refine ax_iconst (v := 0) dX3_refresh_35 (by decide) ?_
  refine ax_iast dX3_refresh_36 (cs_get hi (cs_k0 (by decide))) (by unfold vp_in; decide) ?_
  refine ax_eqh (cs_pa9 hi) ?_
  refine ax_iinc (v := 1) dX3_refresh_37 rfl (by decide) (by decide) ?_
  refine ax_sub (lv' := [(0, .ref (ad (0, 6))), (1, .int 1)]) (fun _ z => z) ?_
  refine ax_goto (tgt := 25) dX3_refresh_40 (by decide) ?_
  refine ax_iload_n dX3_refresh_25 rfl ?_
  refine ax_iconst (v := 4) dX3_refresh_26 (by decide) ?_
  refine ax_icmp_ge (tgt := 43) dX3_refresh_27 (by decide) (fun z => absurd z (by decide)) (fun _ => ?_)
  refine ax_aload_n dX3_refresh_30 rfl ?_
  refine ax_get (v := .ref (ad (0, 9))) dX3_refresh_31 fkX3_25 (cs_get hi (cs_k0 (by decide))) rfl ?_
  refine ax_iload_n dX3_refresh_34 rfl ?_
  refine ax_iconst (v := 0) dX3_refresh_35 (by decide) ?_
  refine ax_iast dX3_refresh_36 (cs_get hi (cs_k0 (by decide))) (by unfold vp_in; decide) ?_
  refine ax_eqh (cs_pa9 hi) ?_
  refine ax_iinc (v := 2) dX3_refresh_37 rfl (by decide) (by decide) ?_
  refine ax_sub (lv' := [(0, .ref (ad (0, 6))), (1, .int 2)]) (fun _ z => z) ?_
  refine ax_goto (tgt := 25) dX3_refresh_40 (by decide) ?_
  refine ax_iload_n dX3_refresh_25 rfl ?_
  refine ax_iconst (v := 4) dX3_refresh_26 (by decide) ?_
  refine ax_icmp_ge (tgt := 43) dX3_refresh_27 (by decide) (fun z => absurd z (by decide)) (fun _ => ?_)
  refine ax_aload_n dX3_refresh_30 rfl ?_
  refine ax_get (v := .ref (ad (0, 9))) dX3_refresh_31 fkX3_25 (cs_get hi (cs_k0 (by decide))) rfl ?_
  refine ax_iload_n dX3_refresh_34 rfl ?_
  refine ax_iconst (v := 0) dX3_refresh_35 (by decide) ?_
  refine ax_iast dX3_refresh_36 (cs_get hi (cs_k0 (by decide))) (by unfold vp_in; decide) ?_
  refine ax_eqh (cs_pa9 hi) ?_
  refine ax_iinc (v := 3) dX3_refresh_37 rfl (by decide) (by decide) ?_
  refine ax_sub (lv' := [(0, .ref (ad (0, 6))), (1, .int 3)]) (fun _ z => z) ?_
  refine ax_goto (tgt := 25) dX3_refresh_40 (by decide) ?_
  refine ax_iload_n dX3_refresh_25 rfl ?_
  refine ax_iconst (v := 4) dX3_refresh_26 (by decide) ?_
  refine ax_icmp_ge (tgt := 43) dX3_refresh_27 (by decide) (fun z => absurd z (by decide)) (fun _ => ?_)
  refine ax_aload_n dX3_refresh_30 rfl ?_
  refine ax_get (v := .ref (ad (0, 9))) dX3_refresh_31 fkX3_25 (cs_get hi (cs_k0 (by decide))) rfl ?_
  refine ax_iload_n dX3_refresh_34 rfl ?_
  refine ax_iconst (v := 0) dX3_refresh_35 (by decide) ?_
  refine ax_iast dX3_refresh_36 (cs_get hi (cs_k0 (by decide))) (by unfold vp_in; decide) ?_
  refine ax_eqh (cs_pa9 hi) ?_
  refine ax_iinc (v := 4) dX3_refresh_37 rfl (by decide) (by decide) ?_
  refine ax_sub (lv' := [(0, .ref (ad (0, 6))), (1, .int 4)]) (fun _ z => z) ?_
  refine ax_goto (tgt := 25) dX3_refresh_40 (by decide) ?_
  refine ax_iload_n dX3_refresh_25 rfl ?_
  refine ax_iconst (v := 4) dX3_refresh_26 (by decide) ?_
  refine ax_icmp_ge (tgt := 43) dX3_refresh_27 (by decide) (fun _ => ?_) (fun z => absurd (by decide) z)
  refine ax_iconst (v := 1) dX3_refresh_43 (by decide) ?_
  refine ax_istore_n dX3_refresh_44 (by decide) ?_
  refine ax_sub (lv' := [(0, .ref (ad (0, 6))), (1, .int 1)]) (fun _ z => z) ?_
  refine rf_loop hi hw d h 8 0 _ [] rfl ⟨hg, hf, ⟨rfl, fun t ht => ?_, fun v e z => by simp at z⟩, ⟨by simp, fun v e z => by simp at z⟩, List.prefix_refl _, fun t z ht hz => ?_⟩ (fun v w e f _ z => by simp at z) (fun e z => absurd z List.not_mem_nil) rfl rfl (fun S' q1 q2 => hQ S' q1 (st_sf_tr ?_ q2))
  · rcases (show t = 0 ∨ t = 1 ∨ t = 2 ∨ t = 3 by omega) with rfl | rfl | rfl | rfl <;> rfl
  · have : z = 0 := by omega
    subst this
    exact he t ht
  · exact ⟨fun i z4 z5 z6 z7 => (pk_un z6).trans ((pk_un z5).trans (pk_un z4)), fun i z9 _ => by simp [cs_setA, cs_setS, va_up, z9], fun _ _ => rfl, fun _ _ => ⟨rfl, rfl, rfl⟩, rfl⟩
set_option maxRecDepth 100000 in
set_option maxHeartbeats 4000000 in
theorem ch_refresh1 {G : ax_G} {ad : cs_K → Nat} (hi : cs_inj ad) (d : Nat) (h : ax_H) {Q : ax_P} (S : cs_S) (h7 : S.1 7 = 1) (hq : Q (.inl none) (cs_O ad S h)) : AW G mX3_refresh d 0 0 Q 0 [(0, .ref (ad (0, 6)))] [] (cs_O ad S h) 0 0 := by
  refine ax_aload_n dX3_refresh_0 rfl ?_
  refine ax_get (v := .int 1) dX3_refresh_1 fkX3_46 (cs_get hi (cs_k0 (by decide))) (congrArg (fun z => some (Value.int z)) (h7)) ?_
  refine ax_if_eq (tgt := 8) dX3_refresh_4 (by decide) (fun z => absurd z (by decide)) (fun _ => ?_)
  exact ax_vret (st := []) dX3_refresh_7 rfl hq
