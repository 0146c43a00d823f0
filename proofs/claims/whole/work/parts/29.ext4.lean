/-! ===== extend, whole ===== -/
theorem sp_ah_le (q : sp_C) (k : Nat) : sp_ah q k ≤ 3 := by
  have h : ∀ p, sp_isT p ≤ 1 := fun p => by unfold sp_isT; split <;> omega
  have h0 := h q.2.1
  have h1 := h q.2.2.1
  have h2 := h q.2.2.2.1
  unfold sp_ah
  split <;> omega
set_option maxRecDepth 100000 in
set_option maxHeartbeats 4000000 in
theorem ex_ret {G : ax_G} {ad : cs_K → Nat} (hi : cs_inj ad) {g : sp_G} {c : Nat} {q : sp_C} (hw : sp_wg g) (hc : g.2.2.2[c]? = some q) (d : Nat) (h : ax_H) {xs : List sp_X} {left k : Nat} (hk3 : k ≤ 3) (hl : left ≤ 8) (S : cs_S) (hg : cs_g S g) (hok : sp_ok (cs_vf S (300 + k)) (cs_vn S (300 + k)) (cs_vp S (300 + k)) q.1 c xs) (hk : xs.length = k) {Q : ax_P} (hwr : if sp_ah q k = 0 then left ≠ 0 else left < sp_ah q k) (hq : Q (.inl none) (cs_O ad S h)) : AW G mX3_extend (d + 4) 0 0 Q 0 [(0, .ref (ad (0, 6))), (1, .ref (ad (1, 300 + k))), (2, .int (nI left))] [] (cs_O ad S h) 0 0 := by
  have hah := sp_ah_le q k
  by_cases ha : sp_ah q k = 0
  · rw [if_pos ha] at hwr
    refine ax_aload_n dX3_extend_0 rfl ?_
    refine ax_get (v := .ref (ad (0, 1))) dX3_extend_1 fkX3_9 (cs_get hi (cs_k0 (by decide))) rfl ?_
    refine ax_aload_n dX3_extend_4 rfl ?_
    refine ax_get (v := .int (nI c)) dX3_extend_5 fkX3_91 (cs_get hi (cs_k1 (by omega))) (congrArg (fun z => some (Value.int z)) (hok.2.1)) ?_
    refine ax_aload_n dX3_extend_8 rfl ?_
    refine ax_get (v := .int (nI k)) dX3_extend_9 fkX3_94 (cs_get hi (cs_k1 (by omega))) (congrArg (fun z => some (Value.int z)) (hk ▸ hok.2.2.1)) ?_
    refine ax_callV (b := (ad (0, 1))) (av := [.int (nI c), .int (nI k)]) (rest := []) (mc' := 0) (ms' := 0) dX3_extend_12 rfl lkX3_97 (cs_get hi (cs_k0 (by decide))) rfl (Nat.le_of_ble_eq_true rfl) (Nat.le_of_ble_eq_true rfl) (Nat.le_refl 0) (Nat.le_refl 0) (cg_parameter hi _ S h hg hw hc hk3) (fun E9 h9 q9 => by cases q9.1) (fun v9 h9 q9 => ?_)
    obtain ⟨e9, rfl⟩ := q9
    cases e9
    show AW G mX3_extend (d + 4) 0 0 Q 15 [(0, .ref (ad (0, 6))), (1, .ref (ad (1, 300 + k))), (2, .int (nI left))] [.int (sp_pI (sp_par q k))] (cs_O ad S h) 0 0
    refine ax_istore_n dX3_extend_15 (by decide) ?_
    refine ax_sub (lv' := [(0, .ref (ad (0, 6))), (1, .ref (ad (1, 300 + k))), (2, .int (nI left)), (3, .int (sp_pI (sp_par q k)))]) (fun _ z => z) ?_
    refine ax_aload_n dX3_extend_16 rfl ?_
    refine ax_get (v := .ref (ad (0, 1))) dX3_extend_17 fkX3_9 (cs_get hi (cs_k0 (by decide))) rfl ?_
    refine ax_aload_n dX3_extend_20 rfl ?_
    refine ax_get (v := .int (nI c)) dX3_extend_21 fkX3_91 (cs_get hi (cs_k1 (by omega))) (congrArg (fun z => some (Value.int z)) (hok.2.1)) ?_
    refine ax_aload_n dX3_extend_24 rfl ?_
    refine ax_get (v := .int (nI k)) dX3_extend_25 fkX3_94 (cs_get hi (cs_k1 (by omega))) (congrArg (fun z => some (Value.int z)) (hk ▸ hok.2.2.1)) ?_
    refine ax_callV (b := (ad (0, 1))) (av := [.int (nI c), .int (nI k)]) (rest := []) (mc' := 0) (ms' := 0) dX3_extend_28 rfl lkX3_100 (cs_get hi (cs_k0 (by decide))) rfl (Nat.le_of_ble_eq_true rfl) (Nat.le_of_ble_eq_true rfl) (Nat.le_refl 0) (Nat.le_refl 0) (cg_typesFrom hi _ S h hg hw hc hk3) (fun E9 h9 q9 => by cases q9.1) (fun v9 h9 q9 => ?_)
    obtain ⟨e9, rfl⟩ := q9
    cases e9
    show AW G mX3_extend (d + 4) 0 0 Q 31 [(0, .ref (ad (0, 6))), (1, .ref (ad (1, 300 + k))), (2, .int (nI left)), (3, .int (sp_pI (sp_par q k)))] [.int (nI (sp_ah q k))] (cs_O ad S h) 0 0
    refine ax_istore dX3_extend_31 (by decide) ?_
    refine ax_sub (lv' := [(0, .ref (ad (0, 6))), (1, .ref (ad (1, 300 + k))), (2, .int (nI left)), (3, .int (sp_pI (sp_par q k))), (4, .int (nI (sp_ah q k)))]) (fun _ z => z) ?_
    refine ax_iload dX3_extend_33 rfl ?_
    refine ax_if_ne (tgt := 50) dX3_extend_35 (by decide) (fun z => absurd (by rw [ha]; rfl) z) (fun _ => ?_)
    refine ax_iload_n dX3_extend_38 rfl ?_
    refine ax_if_eq (tgt := 46) dX3_extend_39 (by decide) (fun z => absurd z (nI_ne0 (by omega) (by omega))) (fun _ => ?_)
    refine ax_iconst (v := 1) dX3_extend_42 (by decide) ?_
    refine ax_goto (tgt := 61) dX3_extend_43 (by decide) ?_
    refine ax_istore dX3_extend_61 (by decide) ?_
    refine ax_sub (lv' := [(0, .ref (ad (0, 6))), (1, .ref (ad (1, 300 + k))), (2, .int (nI left)), (3, .int (sp_pI (sp_par q k))), (4, .int (nI (sp_ah q k))), (5, .int 1)]) (fun _ z => z) ?_
    refine ax_iload dX3_extend_63 rfl ?_
    refine ax_if_ne (tgt := 86) dX3_extend_65 (by decide) (fun _ => ?_) (fun z => absurd z (by decide))
    exact ax_vret (st := []) dX3_extend_86 rfl hq
  · rw [if_neg ha] at hwr
    refine ax_aload_n dX3_extend_0 rfl ?_
    refine ax_get (v := .ref (ad (0, 1))) dX3_extend_1 fkX3_9 (cs_get hi (cs_k0 (by decide))) rfl ?_
    refine ax_aload_n dX3_extend_4 rfl ?_
    refine ax_get (v := .int (nI c)) dX3_extend_5 fkX3_91 (cs_get hi (cs_k1 (by omega))) (congrArg (fun z => some (Value.int z)) (hok.2.1)) ?_
    refine ax_aload_n dX3_extend_8 rfl ?_
    refine ax_get (v := .int (nI k)) dX3_extend_9 fkX3_94 (cs_get hi (cs_k1 (by omega))) (congrArg (fun z => some (Value.int z)) (hk ▸ hok.2.2.1)) ?_
    refine ax_callV (b := (ad (0, 1))) (av := [.int (nI c), .int (nI k)]) (rest := []) (mc' := 0) (ms' := 0) dX3_extend_12 rfl lkX3_97 (cs_get hi (cs_k0 (by decide))) rfl (Nat.le_of_ble_eq_true rfl) (Nat.le_of_ble_eq_true rfl) (Nat.le_refl 0) (Nat.le_refl 0) (cg_parameter hi _ S h hg hw hc hk3) (fun E9 h9 q9 => by cases q9.1) (fun v9 h9 q9 => ?_)
    obtain ⟨e9, rfl⟩ := q9
    cases e9
    show AW G mX3_extend (d + 4) 0 0 Q 15 [(0, .ref (ad (0, 6))), (1, .ref (ad (1, 300 + k))), (2, .int (nI left))] [.int (sp_pI (sp_par q k))] (cs_O ad S h) 0 0
    refine ax_istore_n dX3_extend_15 (by decide) ?_
    refine ax_sub (lv' := [(0, .ref (ad (0, 6))), (1, .ref (ad (1, 300 + k))), (2, .int (nI left)), (3, .int (sp_pI (sp_par q k)))]) (fun _ z => z) ?_
    refine ax_aload_n dX3_extend_16 rfl ?_
    refine ax_get (v := .ref (ad (0, 1))) dX3_extend_17 fkX3_9 (cs_get hi (cs_k0 (by decide))) rfl ?_
    refine ax_aload_n dX3_extend_20 rfl ?_
    refine ax_get (v := .int (nI c)) dX3_extend_21 fkX3_91 (cs_get hi (cs_k1 (by omega))) (congrArg (fun z => some (Value.int z)) (hok.2.1)) ?_
    refine ax_aload_n dX3_extend_24 rfl ?_
    refine ax_get (v := .int (nI k)) dX3_extend_25 fkX3_94 (cs_get hi (cs_k1 (by omega))) (congrArg (fun z => some (Value.int z)) (hk ▸ hok.2.2.1)) ?_
    refine ax_callV (b := (ad (0, 1))) (av := [.int (nI c), .int (nI k)]) (rest := []) (mc' := 0) (ms' := 0) dX3_extend_28 rfl lkX3_100 (cs_get hi (cs_k0 (by decide))) rfl (Nat.le_of_ble_eq_true rfl) (Nat.le_of_ble_eq_true rfl) (Nat.le_refl 0) (Nat.le_refl 0) (cg_typesFrom hi _ S h hg hw hc hk3) (fun E9 h9 q9 => by cases q9.1) (fun v9 h9 q9 => ?_)
    obtain ⟨e9, rfl⟩ := q9
    cases e9
    show AW G mX3_extend (d + 4) 0 0 Q 31 [(0, .ref (ad (0, 6))), (1, .ref (ad (1, 300 + k))), (2, .int (nI left)), (3, .int (sp_pI (sp_par q k)))] [.int (nI (sp_ah q k))] (cs_O ad S h) 0 0
    refine ax_istore dX3_extend_31 (by decide) ?_
    refine ax_sub (lv' := [(0, .ref (ad (0, 6))), (1, .ref (ad (1, 300 + k))), (2, .int (nI left)), (3, .int (sp_pI (sp_par q k))), (4, .int (nI (sp_ah q k)))]) (fun _ z => z) ?_
    refine ax_iload dX3_extend_33 rfl ?_
    refine ax_if_ne (tgt := 50) dX3_extend_35 (by decide) (fun _ => ?_) (fun z => absurd z (nI_ne0 (by omega) (by omega)))
    refine ax_iload_n dX3_extend_50 rfl ?_
    refine ax_iload dX3_extend_51 rfl ?_
    refine ax_icmp_ge (tgt := 60) dX3_extend_53 (by decide) (fun z => absurd z (il_nle (sp_ah q k) left (by omega))) (fun _ => ?_)
    refine ax_iconst (v := 1) dX3_extend_56 (by decide) ?_
    refine ax_goto (tgt := 61) dX3_extend_57 (by decide) ?_
    refine ax_istore dX3_extend_61 (by decide) ?_
    refine ax_sub (lv' := [(0, .ref (ad (0, 6))), (1, .ref (ad (1, 300 + k))), (2, .int (nI left)), (3, .int (sp_pI (sp_par q k))), (4, .int (nI (sp_ah q k))), (5, .int 1)]) (fun _ z => z) ?_
    refine ax_iload dX3_extend_63 rfl ?_
    refine ax_if_ne (tgt := 86) dX3_extend_65 (by decide) (fun _ => ?_) (fun z => absurd z (by decide))
    exact ax_vret (st := []) dX3_extend_86 rfl hq
set_option maxRecDepth 100000 in
set_option maxHeartbeats 4000000 in
theorem ex_68 {G : ax_G} {ad : cs_K → Nat} (hi : cs_inj ad) {g : sp_G} {c : Nat} {q : sp_C} (hw : sp_wg g) (hc : g.2.2.2[c]? = some q) (d : Nat) (h : ax_H) {xs : List sp_X} {left k : Nat} (hk3 : k ≤ 3) (hl : left ≤ 8) (S : cs_S) (hg : cs_g S g) (hok : sp_ok (cs_vf S (300 + k)) (cs_vn S (300 + k)) (cs_vp S (300 + k)) q.1 c xs) (hk : xs.length = k) {Q : ax_P} (hwr : ¬ (if sp_ah q k = 0 then left ≠ 0 else left < sp_ah q k)) (k68 : AW G mX3_extend (d + 4) 0 0 Q 68 [(0, .ref (ad (0, 6))), (1, .ref (ad (1, 300 + k))), (2, .int (nI left)), (3, .int (sp_pI (sp_par q k))), (4, .int (nI (sp_ah q k))), (5, .int 0)] [] (cs_O ad S h) 0 0) : AW G mX3_extend (d + 4) 0 0 Q 0 [(0, .ref (ad (0, 6))), (1, .ref (ad (1, 300 + k))), (2, .int (nI left))] [] (cs_O ad S h) 0 0 := by
  have hah := sp_ah_le q k
  by_cases ha : sp_ah q k = 0
  · rw [if_pos ha] at hwr
    have hb : left = 0 := by omega
    refine ax_aload_n dX3_extend_0 rfl ?_
    refine ax_get (v := .ref (ad (0, 1))) dX3_extend_1 fkX3_9 (cs_get hi (cs_k0 (by decide))) rfl ?_
    refine ax_aload_n dX3_extend_4 rfl ?_
    refine ax_get (v := .int (nI c)) dX3_extend_5 fkX3_91 (cs_get hi (cs_k1 (by omega))) (congrArg (fun z => some (Value.int z)) (hok.2.1)) ?_
    refine ax_aload_n dX3_extend_8 rfl ?_
    refine ax_get (v := .int (nI k)) dX3_extend_9 fkX3_94 (cs_get hi (cs_k1 (by omega))) (congrArg (fun z => some (Value.int z)) (hk ▸ hok.2.2.1)) ?_
    refine ax_callV (b := (ad (0, 1))) (av := [.int (nI c), .int (nI k)]) (rest := []) (mc' := 0) (ms' := 0) dX3_extend_12 rfl lkX3_97 (cs_get hi (cs_k0 (by decide))) rfl (Nat.le_of_ble_eq_true rfl) (Nat.le_of_ble_eq_true rfl) (Nat.le_refl 0) (Nat.le_refl 0) (cg_parameter hi _ S h hg hw hc hk3) (fun E9 h9 q9 => by cases q9.1) (fun v9 h9 q9 => ?_)
    obtain ⟨e9, rfl⟩ := q9
    cases e9
    show AW G mX3_extend (d + 4) 0 0 Q 15 [(0, .ref (ad (0, 6))), (1, .ref (ad (1, 300 + k))), (2, .int (nI left))] [.int (sp_pI (sp_par q k))] (cs_O ad S h) 0 0
    refine ax_istore_n dX3_extend_15 (by decide) ?_
    refine ax_sub (lv' := [(0, .ref (ad (0, 6))), (1, .ref (ad (1, 300 + k))), (2, .int (nI left)), (3, .int (sp_pI (sp_par q k)))]) (fun _ z => z) ?_
    refine ax_aload_n dX3_extend_16 rfl ?_
    refine ax_get (v := .ref (ad (0, 1))) dX3_extend_17 fkX3_9 (cs_get hi (cs_k0 (by decide))) rfl ?_
    refine ax_aload_n dX3_extend_20 rfl ?_
    refine ax_get (v := .int (nI c)) dX3_extend_21 fkX3_91 (cs_get hi (cs_k1 (by omega))) (congrArg (fun z => some (Value.int z)) (hok.2.1)) ?_
    refine ax_aload_n dX3_extend_24 rfl ?_
    refine ax_get (v := .int (nI k)) dX3_extend_25 fkX3_94 (cs_get hi (cs_k1 (by omega))) (congrArg (fun z => some (Value.int z)) (hk ▸ hok.2.2.1)) ?_
    refine ax_callV (b := (ad (0, 1))) (av := [.int (nI c), .int (nI k)]) (rest := []) (mc' := 0) (ms' := 0) dX3_extend_28 rfl lkX3_100 (cs_get hi (cs_k0 (by decide))) rfl (Nat.le_of_ble_eq_true rfl) (Nat.le_of_ble_eq_true rfl) (Nat.le_refl 0) (Nat.le_refl 0) (cg_typesFrom hi _ S h hg hw hc hk3) (fun E9 h9 q9 => by cases q9.1) (fun v9 h9 q9 => ?_)
    obtain ⟨e9, rfl⟩ := q9
    cases e9
    show AW G mX3_extend (d + 4) 0 0 Q 31 [(0, .ref (ad (0, 6))), (1, .ref (ad (1, 300 + k))), (2, .int (nI left)), (3, .int (sp_pI (sp_par q k)))] [.int (nI (sp_ah q k))] (cs_O ad S h) 0 0
    refine ax_istore dX3_extend_31 (by decide) ?_
    refine ax_sub (lv' := [(0, .ref (ad (0, 6))), (1, .ref (ad (1, 300 + k))), (2, .int (nI left)), (3, .int (sp_pI (sp_par q k))), (4, .int (nI (sp_ah q k)))]) (fun _ z => z) ?_
    refine ax_iload dX3_extend_33 rfl ?_
    refine ax_if_ne (tgt := 50) dX3_extend_35 (by decide) (fun z => absurd (by rw [ha]; rfl) z) (fun _ => ?_)
    refine ax_iload_n dX3_extend_38 rfl ?_
    refine ax_if_eq (tgt := 46) dX3_extend_39 (by decide) (fun _ => ?_) (fun z => absurd (by rw [hb]; rfl) z)
    refine ax_iconst (v := 0) dX3_extend_46 (by decide) ?_
    refine ax_goto (tgt := 61) dX3_extend_47 (by decide) ?_
    refine ax_istore dX3_extend_61 (by decide) ?_
    refine ax_sub (lv' := [(0, .ref (ad (0, 6))), (1, .ref (ad (1, 300 + k))), (2, .int (nI left)), (3, .int (sp_pI (sp_par q k))), (4, .int (nI (sp_ah q k))), (5, .int 0)]) (fun _ z => z) ?_
    refine ax_iload dX3_extend_63 rfl ?_
    refine ax_if_ne (tgt := 86) dX3_extend_65 (by decide) (fun z => absurd rfl z) (fun _ => ?_)
    exact k68
  · rw [if_neg ha] at hwr
    have hb : sp_ah q k ≤ left := by omega
    refine ax_aload_n dX3_extend_0 rfl ?_
    refine ax_get (v := .ref (ad (0, 1))) dX3_extend_1 fkX3_9 (cs_get hi (cs_k0 (by decide))) rfl ?_
    refine ax_aload_n dX3_extend_4 rfl ?_
    refine ax_get (v := .int (nI c)) dX3_extend_5 fkX3_91 (cs_get hi (cs_k1 (by omega))) (congrArg (fun z => some (Value.int z)) (hok.2.1)) ?_
    refine ax_aload_n dX3_extend_8 rfl ?_
    refine ax_get (v := .int (nI k)) dX3_extend_9 fkX3_94 (cs_get hi (cs_k1 (by omega))) (congrArg (fun z => some (Value.int z)) (hk ▸ hok.2.2.1)) ?_
    refine ax_callV (b := (ad (0, 1))) (av := [.int (nI c), .int (nI k)]) (rest := []) (mc' := 0) (ms' := 0) dX3_extend_12 rfl lkX3_97 (cs_get hi (cs_k0 (by decide))) rfl (Nat.le_of_ble_eq_true rfl) (Nat.le_of_ble_eq_true rfl) (Nat.le_refl 0) (Nat.le_refl 0) (cg_parameter hi _ S h hg hw hc hk3) (fun E9 h9 q9 => by cases q9.1) (fun v9 h9 q9 => ?_)
    obtain ⟨e9, rfl⟩ := q9
    cases e9
    show AW G mX3_extend (d + 4) 0 0 Q 15 [(0, .ref (ad (0, 6))), (1, .ref (ad (1, 300 + k))), (2, .int (nI left))] [.int (sp_pI (sp_par q k))] (cs_O ad S h) 0 0
    refine ax_istore_n dX3_extend_15 (by decide) ?_
    refine ax_sub (lv' := [(0, .ref (ad (0, 6))), (1, .ref (ad (1, 300 + k))), (2, .int (nI left)), (3, .int (sp_pI (sp_par q k)))]) (fun _ z => z) ?_
    refine ax_aload_n dX3_extend_16 rfl ?_
    refine ax_get (v := .ref (ad (0, 1))) dX3_extend_17 fkX3_9 (cs_get hi (cs_k0 (by decide))) rfl ?_
    refine ax_aload_n dX3_extend_20 rfl ?_
    refine ax_get (v := .int (nI c)) dX3_extend_21 fkX3_91 (cs_get hi (cs_k1 (by omega))) (congrArg (fun z => some (Value.int z)) (hok.2.1)) ?_
    refine ax_aload_n dX3_extend_24 rfl ?_
    refine ax_get (v := .int (nI k)) dX3_extend_25 fkX3_94 (cs_get hi (cs_k1 (by omega))) (congrArg (fun z => some (Value.int z)) (hk ▸ hok.2.2.1)) ?_
    refine ax_callV (b := (ad (0, 1))) (av := [.int (nI c), .int (nI k)]) (rest := []) (mc' := 0) (ms' := 0) dX3_extend_28 rfl lkX3_100 (cs_get hi (cs_k0 (by decide))) rfl (Nat.le_of_ble_eq_true rfl) (Nat.le_of_ble_eq_true rfl) (Nat.le_refl 0) (Nat.le_refl 0) (cg_typesFrom hi _ S h hg hw hc hk3) (fun E9 h9 q9 => by cases q9.1) (fun v9 h9 q9 => ?_)
    obtain ⟨e9, rfl⟩ := q9
    cases e9
    show AW G mX3_extend (d + 4) 0 0 Q 31 [(0, .ref (ad (0, 6))), (1, .ref (ad (1, 300 + k))), (2, .int (nI left)), (3, .int (sp_pI (sp_par q k)))] [.int (nI (sp_ah q k))] (cs_O ad S h) 0 0
    refine ax_istore dX3_extend_31 (by decide) ?_
    refine ax_sub (lv' := [(0, .ref (ad (0, 6))), (1, .ref (ad (1, 300 + k))), (2, .int (nI left)), (3, .int (sp_pI (sp_par q k))), (4, .int (nI (sp_ah q k)))]) (fun _ z => z) ?_
    refine ax_iload dX3_extend_33 rfl ?_
    refine ax_if_ne (tgt := 50) dX3_extend_35 (by decide) (fun _ => ?_) (fun z => absurd z (nI_ne0 (by omega) (by omega)))
    refine ax_iload_n dX3_extend_50 rfl ?_
    refine ax_iload dX3_extend_51 rfl ?_
    refine ax_icmp_ge (tgt := 60) dX3_extend_53 (by decide) (fun _ => ?_) (fun z => absurd (il_le (sp_ah q k) left hb) z)
    refine ax_iconst (v := 0) dX3_extend_60 (by decide) ?_
    refine ax_istore dX3_extend_61 (by decide) ?_
    refine ax_sub (lv' := [(0, .ref (ad (0, 6))), (1, .ref (ad (1, 300 + k))), (2, .int (nI left)), (3, .int (sp_pI (sp_par q k))), (4, .int (nI (sp_ah q k))), (5, .int 0)]) (fun _ z => z) ?_
    refine ax_iload dX3_extend_63 rfl ?_
    refine ax_if_ne (tgt := 86) dX3_extend_65 (by decide) (fun z => absurd rfl z) (fun _ => ?_)
    exact k68

set_option maxRecDepth 100000 in
set_option maxHeartbeats 4000000 in
theorem ex_hop1 {G : ax_G} {ad : cs_K → Nat} (hi : cs_inj ad) {g : sp_G} {c : Nat} {q : sp_C} (hw : sp_wg g) (hc : g.2.2.2[c]? = some q) (d : Nat) (h : ax_H) {xs : List sp_X} {left k : Nat} (hk3 : k ≤ 3) (hl : left ≤ 8) (S : cs_S) (hg : cs_g S g) (hok : sp_ok (cs_vf S (300 + k)) (cs_vn S (300 + k)) (cs_vp S (300 + k)) q.1 c xs) (hk : xs.length = k) {Q : ax_P} (hgx : sp_g xs) (hq : ¬ sp_hop 1 (nI q.2.2.2.2) (sp_cond q.2.2.2.2 xs) = 0 → Q (.inl none) (cs_O ad S h)) (k87 : sp_hop 1 (nI q.2.2.2.2) (sp_cond q.2.2.2.2 xs) = 0 → AW G mX3_extend (d + 4) 0 0 Q 87 [(0, .ref (ad (0, 6))), (1, .ref (ad (1, 300 + k))), (2, .int (nI left)), (3, .int (-1)), (4, .int (nI (sp_ah q k))), (5, .int 0)] [] (cs_O ad S h) 0 0) : AW G mX3_extend (d + 4) 0 0 Q 68 [(0, .ref (ad (0, 6))), (1, .ref (ad (1, 300 + k))), (2, .int (nI left)), (3, .int (-1)), (4, .int (nI (sp_ah q k))), (5, .int 0)] [] (cs_O ad S h) 0 0 := by
  refine ax_aload_n dX3_extend_68 rfl ?_
  refine ax_aload_n dX3_extend_69 rfl ?_
  refine ax_iload_n dX3_extend_70 rfl ?_
  refine ax_iconst (v := (-1)) dX3_extend_71 (by decide) ?_
  refine ax_icmp_ne (tgt := 79) dX3_extend_72 (by decide) (fun z => absurd rfl z) (fun _ => ?_)
  refine ax_iconst (v := 1) dX3_extend_75 (by decide) ?_
  refine ax_goto (tgt := 80) dX3_extend_76 (by decide) ?_
  refine ax_callV (b := (ad (0, 6))) (av := [.ref (ad (1, 300 + k)), .int 1]) (rest := []) (mc' := 0) (ms' := 0) dX3_extend_80 rfl lkX3_103 (cs_get hi (cs_k0 (by decide))) rfl (Nat.le_of_ble_eq_true rfl) (Nat.le_of_ble_eq_true rfl) (Nat.le_refl 0) (Nat.le_refl 0) (ch_isHopeless hi _ S h hg hw hc (by omega) hok hgx 1) (fun E9 h9 q9 => by cases q9.1) (fun v9 h9 q9 => ?_)
  obtain ⟨e9, rfl⟩ := q9
  cases e9
  show AW G mX3_extend (d + 4) 0 0 Q 83 [(0, .ref (ad (0, 6))), (1, .ref (ad (1, 300 + k))), (2, .int (nI left)), (3, .int (-1)), (4, .int (nI (sp_ah q k))), (5, .int 0)] [.int (sp_hop 1 (nI q.2.2.2.2) (sp_cond q.2.2.2.2 xs))] (cs_O ad S h) 0 0
  refine ax_if_eq (tgt := 87) dX3_extend_83 (by decide) (fun c1 => ?_) (fun c1 => ?_)
  · exact k87 c1
  · exact ax_vret (st := []) dX3_extend_86 rfl (hq c1)
set_option maxRecDepth 100000 in
set_option maxHeartbeats 4000000 in
theorem ex_hop0 {G : ax_G} {ad : cs_K → Nat} (hi : cs_inj ad) {g : sp_G} {c : Nat} {q : sp_C} (hw : sp_wg g) (hc : g.2.2.2[c]? = some q) (d : Nat) (h : ax_H) {xs : List sp_X} {left k : Nat} (hk3 : k ≤ 3) (hl : left ≤ 8) (S : cs_S) (hg : cs_g S g) (hok : sp_ok (cs_vf S (300 + k)) (cs_vn S (300 + k)) (cs_vp S (300 + k)) q.1 c xs) (hk : xs.length = k) {Q : ax_P} (hgx : sp_g xs) {pv : Int32} (hpv : ¬ pv = -1) (hq : ¬ sp_hop 0 (nI q.2.2.2.2) (sp_cond q.2.2.2.2 xs) = 0 → Q (.inl none) (cs_O ad S h)) (k87 : sp_hop 0 (nI q.2.2.2.2) (sp_cond q.2.2.2.2 xs) = 0 → AW G mX3_extend (d + 4) 0 0 Q 87 [(0, .ref (ad (0, 6))), (1, .ref (ad (1, 300 + k))), (2, .int (nI left)), (3, .int pv), (4, .int (nI (sp_ah q k))), (5, .int 0)] [] (cs_O ad S h) 0 0) : AW G mX3_extend (d + 4) 0 0 Q 68 [(0, .ref (ad (0, 6))), (1, .ref (ad (1, 300 + k))), (2, .int (nI left)), (3, .int pv), (4, .int (nI (sp_ah q k))), (5, .int 0)] [] (cs_O ad S h) 0 0 := by
  refine ax_aload_n dX3_extend_68 rfl ?_
  refine ax_aload_n dX3_extend_69 rfl ?_
  refine ax_iload_n dX3_extend_70 rfl ?_
  refine ax_iconst (v := (-1)) dX3_extend_71 (by decide) ?_
  refine ax_icmp_ne (tgt := 79) dX3_extend_72 (by decide) (fun _ => ?_) (fun z => absurd z hpv)
  refine ax_iconst (v := 0) dX3_extend_79 (by decide) ?_
  refine ax_callV (b := (ad (0, 6))) (av := [.ref (ad (1, 300 + k)), .int 0]) (rest := []) (mc' := 0) (ms' := 0) dX3_extend_80 rfl lkX3_103 (cs_get hi (cs_k0 (by decide))) rfl (Nat.le_of_ble_eq_true rfl) (Nat.le_of_ble_eq_true rfl) (Nat.le_refl 0) (Nat.le_refl 0) (ch_isHopeless hi _ S h hg hw hc (by omega) hok hgx 0) (fun E9 h9 q9 => by cases q9.1) (fun v9 h9 q9 => ?_)
  obtain ⟨e9, rfl⟩ := q9
  cases e9
  show AW G mX3_extend (d + 4) 0 0 Q 83 [(0, .ref (ad (0, 6))), (1, .ref (ad (1, 300 + k))), (2, .int (nI left)), (3, .int pv), (4, .int (nI (sp_ah q k))), (5, .int 0)] [.int (sp_hop 0 (nI q.2.2.2.2) (sp_cond q.2.2.2.2 xs))] (cs_O ad S h) 0 0
  refine ax_if_eq (tgt := 87) dX3_extend_83 (by decide) (fun c1 => ?_) (fun c1 => ?_)
  · exact k87 c1
  · exact ax_vret (st := []) dX3_extend_86 rfl (hq c1)
set_option maxRecDepth 100000 in
set_option maxHeartbeats 4000000 in
theorem ex_keep {T T0 : List sp_E} {s : Nat} {G : ax_G} {ad : cs_K → Nat} (hi : cs_inj ad) {g : sp_G} {c : Nat} {q : sp_C} (hw : sp_wg g) (hc : g.2.2.2[c]? = some q) (d : Nat) (h : ax_H) {xs : List sp_X} {left k : Nat} (hk3 : k ≤ 3) (hl : left ≤ 8) (S : cs_S) (hg : cs_g S g) (hok : sp_ok (cs_vf S (300 + k)) (cs_vn S (300 + k)) (cs_vp S (300 + k)) q.1 c xs) (hk : xs.length = k) {Q : ax_P} (hin : st_in g S T T0 s) (h5 : S.1 5 = 0) (hx : sp_xs T0 g.1 g.2.1 xs) (ht : q.1 < 4) (hq : ∀ S', (st_T S' (sp_push (T, false) (q.1, c, xs)).1 ∧ st_same 3 S S' ∧ S'.1 5 = (if (sp_push (T, false) (q.1, c, xs)).2 then 1 else 0)) → Q (.inl none) (cs_O ad S' h)) : AW G mX3_extend (d + 4) 0 0 Q 87 [(0, .ref (ad (0, 6))), (1, .ref (ad (1, 300 + k))), (2, .int (nI left)), (3, .int (-1)), (4, .int (nI (sp_ah q k))), (5, .int 0)] [] (cs_O ad S h) 0 0 := by
  have hpl : T0.length ≤ T.length := hin.2.2.2.2.1.length_le
  have hp : ∀ j, j < xs.length → ∀ y, cs_vp S (300 + k) j = some y → y < T.length := fun j hj y hy => Nat.lt_of_lt_of_le (sp_ok_p hok hx j hj y hy) hpl
  refine ax_iload_n dX3_extend_87 rfl ?_
  refine ax_iconst (v := (-1)) dX3_extend_88 (by decide) ?_
  refine ax_icmp_ne (tgt := 100) dX3_extend_89 (by decide) (fun z => absurd rfl z) (fun _ => ?_)
  refine ax_aload_n dX3_extend_92 rfl ?_
  refine ax_aload_n dX3_extend_93 rfl ?_
  refine ax_callV (b := (ad (0, 6))) (av := [.ref (ad (1, 300 + k))]) (rest := []) (mc' := 0) (ms' := 0) dX3_extend_94 rfl lkX3_107 (cs_get hi (cs_k0 (by decide))) rfl (Nat.le_of_ble_eq_true rfl) (Nat.le_of_ble_eq_true rfl) (Nat.le_refl 0) (Nat.le_refl 0) (ch_keep hi _ S h hin.2.2.1 hin.2.2.2.1 hin.2.1 (by omega) (by omega) hok hx.1 ht h5 hp) (fun E9 h9 q9 => by cases q9.1) (fun v9 h9 q9 => ?_)
  obtain ⟨e9, S3, rfl, o9⟩ := q9
  cases e9
  show AW G mX3_extend (d + 4) 0 0 Q 97 [(0, .ref (ad (0, 6))), (1, .ref (ad (1, 300 + k))), (2, .int (nI left)), (3, .int (-1)), (4, .int (nI (sp_ah q k))), (5, .int 0)] [] (cs_O ad S3 h) 0 0
  refine ax_goto (tgt := 124) dX3_extend_97 (by decide) ?_
  exact ax_vret (st := []) dX3_extend_124 rfl (hq S3 o9)
set_option maxRecDepth 100000 in
set_option maxHeartbeats 4000000 in
theorem ex_num {G : ax_G} {ad : cs_K → Nat} (hi : cs_inj ad) {g : sp_G} {c : Nat} {q : sp_C} (hw : sp_wg g) (hc : g.2.2.2[c]? = some q) (d : Nat) (h : ax_H) {xs : List sp_X} {left k : Nat} (hk3 : k ≤ 3) (hl : left ≤ 8) (S : cs_S) (hg : cs_g S g) (hok : sp_ok (cs_vf S (300 + k)) (cs_vn S (300 + k)) (cs_vp S (300 + k)) q.1 c xs) (hk : xs.length = k) {Q : ax_P} {p : Nat} {R9 : cs_S → Prop} (hcall : AW G mX3_extendByNumbers (d + 3) 0 0 (fun r h1 => r = .inl none ∧ ∃ S', h1 = cs_O ad S' h ∧ R9 S') 0 [(0, .ref (ad (0, 6))), (1, .ref (ad (1, 300 + k))), (2, .int (nI left))] [] (cs_O ad S h) 0 0) (hq : ∀ S', R9 S' → Q (.inl none) (cs_O ad S' h)) : AW G mX3_extend (d + 4) 0 0 Q 87 [(0, .ref (ad (0, 6))), (1, .ref (ad (1, 300 + k))), (2, .int (nI left)), (3, .int 9), (4, .int (nI (sp_ah q k))), (5, .int 0)] [] (cs_O ad S h) 0 0 := by
  refine ax_iload_n dX3_extend_87 rfl ?_
  refine ax_iconst (v := (-1)) dX3_extend_88 (by decide) ?_
  refine ax_icmp_ne (tgt := 100) dX3_extend_89 (by decide) (fun _ => ?_) (fun z => absurd z (by decide))
  refine ax_iload_n dX3_extend_100 rfl ?_
  refine ax_bipush (v := 9) dX3_extend_101 (by decide) ?_
  refine ax_icmp_ne (tgt := 115) dX3_extend_103 (by decide) (fun z => absurd rfl z) (fun _ => ?_)
  refine ax_aload_n dX3_extend_106 rfl ?_
  refine ax_aload_n dX3_extend_107 rfl ?_
  refine ax_iload_n dX3_extend_108 rfl ?_
  refine ax_callV (b := (ad (0, 6))) (av := [.ref (ad (1, 300 + k)), .int (nI left)]) (rest := []) (mc' := 0) (ms' := 0) dX3_extend_109 rfl lkX3_111 (cs_get hi (cs_k0 (by decide))) rfl (Nat.le_of_ble_eq_true rfl) (Nat.le_of_ble_eq_true rfl) (Nat.le_refl 0) (Nat.le_refl 0) (hcall) (fun E9 h9 q9 => by cases q9.1) (fun v9 h9 q9 => ?_)
  obtain ⟨e9, S3, rfl, o9⟩ := q9
  cases e9
  show AW G mX3_extend (d + 4) 0 0 Q 112 [(0, .ref (ad (0, 6))), (1, .ref (ad (1, 300 + k))), (2, .int (nI left)), (3, .int 9), (4, .int (nI (sp_ah q k))), (5, .int 0)] [] (cs_O ad S3 h) 0 0
  refine ax_goto (tgt := 124) dX3_extend_112 (by decide) ?_
  exact ax_vret (st := []) dX3_extend_124 rfl (hq S3 o9)
set_option maxRecDepth 100000 in
set_option maxHeartbeats 4000000 in
theorem ex_part {G : ax_G} {ad : cs_K → Nat} (hi : cs_inj ad) {g : sp_G} {c : Nat} {q : sp_C} (hw : sp_wg g) (hc : g.2.2.2[c]? = some q) (d : Nat) (h : ax_H) {xs : List sp_X} {left k : Nat} (hk3 : k ≤ 3) (hl : left ≤ 8) (S : cs_S) (hg : cs_g S g) (hok : sp_ok (cs_vf S (300 + k)) (cs_vn S (300 + k)) (cs_vp S (300 + k)) q.1 c xs) (hk : xs.length = k) {Q : ax_P} {p : Nat} (hn1 : ¬ nI p = -1) (hn9 : ¬ nI p = 9) {R9 : cs_S → Prop} (hcall : AW G mX3_extendByParts (d + 3) 0 0 (fun r h1 => r = .inl none ∧ ∃ S', h1 = cs_O ad S' h ∧ R9 S') 0 [(0, .ref (ad (0, 6))), (1, .ref (ad (1, 300 + k))), (2, .int (nI p)), (3, .int (nI left)), (4, .int (nI (sp_ah q k)))] [] (cs_O ad S h) 0 0) (hq : ∀ S', R9 S' → Q (.inl none) (cs_O ad S' h)) : AW G mX3_extend (d + 4) 0 0 Q 87 [(0, .ref (ad (0, 6))), (1, .ref (ad (1, 300 + k))), (2, .int (nI left)), (3, .int (nI p)), (4, .int (nI (sp_ah q k))), (5, .int 0)] [] (cs_O ad S h) 0 0 := by
  refine ax_iload_n dX3_extend_87 rfl ?_
  refine ax_iconst (v := (-1)) dX3_extend_88 (by decide) ?_
  refine ax_icmp_ne (tgt := 100) dX3_extend_89 (by decide) (fun _ => ?_) (fun z => absurd z hn1)
  refine ax_iload_n dX3_extend_100 rfl ?_
  refine ax_bipush (v := 9) dX3_extend_101 (by decide) ?_
  refine ax_icmp_ne (tgt := 115) dX3_extend_103 (by decide) (fun _ => ?_) (fun z => absurd z hn9)
  refine ax_aload_n dX3_extend_115 rfl ?_
  refine ax_aload_n dX3_extend_116 rfl ?_
  refine ax_iload_n dX3_extend_117 rfl ?_
  refine ax_iload_n dX3_extend_118 rfl ?_
  refine ax_iload dX3_extend_119 rfl ?_
  refine ax_callV (b := (ad (0, 6))) (av := [.ref (ad (1, 300 + k)), .int (nI p), .int (nI left), .int (nI (sp_ah q k))]) (rest := []) (mc' := 0) (ms' := 0) dX3_extend_121 rfl lkX3_114 (cs_get hi (cs_k0 (by decide))) rfl (Nat.le_of_ble_eq_true rfl) (Nat.le_of_ble_eq_true rfl) (Nat.le_refl 0) (Nat.le_refl 0) (hcall) (fun E9 h9 q9 => by cases q9.1) (fun v9 h9 q9 => ?_)
  obtain ⟨e9, S3, rfl, o9⟩ := q9
  cases e9
  show AW G mX3_extend (d + 4) 0 0 Q 124 [(0, .ref (ad (0, 6))), (1, .ref (ad (1, 300 + k))), (2, .int (nI left)), (3, .int (nI p)), (4, .int (nI (sp_ah q k))), (5, .int 0)] [] (cs_O ad S3 h) 0 0
  exact ax_vret (st := []) dX3_extend_124 rfl (hq S3 o9)
theorem sp_hop1 {k5 : Nat} {f : Bool} (hk : k5 ≤ 5) : sp_hop 1 (nI k5) f = 0 ↔ f = true := by
  unfold sp_hop
  cases f <;> simp
theorem sp_hop0 {k5 : Nat} {f : Bool} (hk : k5 ≤ 5) : sp_hop 0 (nI k5) f = 0 ↔ ¬ (k5 ≠ 5 ∧ f = false) := by
  unfold sp_hop
  have e5 : nI k5 = 5 ↔ k5 = 5 := by
    rw [show (5 : Int32) = nI 5 by decide, nI_eq (by omega) (by decide)]
  by_cases h5 : k5 = 5
  · have h6 := e5.mpr h5
    simp [h5, h6]
    exact fun z => absurd (by decide) z
  · have : ¬ nI k5 = 5 := fun z => h5 (e5.mp z)
    cases f <;> simp [h5, this]
theorem st_EX0 {G : ax_G} {ad : cs_K → Nat} {g : sp_G} {T0 : List sp_E} {s c : Nat} {q : sp_C} : st_EX G ad g T0 s c q 0 := by
  intro d hd S h T xs left k hk hkn hin h5 hx
  have := hx.1
  omega
theorem st_EXs {G : ax_G} {ad : cs_K → Nat} (hi : cs_inj ad) {g : sp_G} {T0 : List sp_E} {s c n : Nat} {q : sp_C} (hw : sp_wg g) (hc : g.2.2.2[c]? = some q) (hs7 : s ≤ 7) (hl0 : T0.length ≤ 300) (hsrt : sp_srt T0) (IH : st_EX G ad g T0 s c q n) : st_EX G ad g T0 s c q (n + 1) := by
  intro d hd S h T xs left k hk hkn hin h5 hx hok hsz
  obtain ⟨d, rfl⟩ : ∃ e, d = e + 4 := ⟨d - 4, by omega⟩
  have hqc := hw.2.2.2.2 q (List.mem_of_getElem? hc)
  have hk5 : q.2.2.2.2 ≤ 5 := hqc.2.2.2.2.2
  have hq4 : q.1 < 4 := Nat.lt_of_lt_of_le hqc.1 hw.2.2.1
  have hgx : sp_g xs := sp_xs_g hx hw.2.1 hin.2.2.2.1 hin.2.2.2.2.1
  have hsame : st_out g T0 s k (T, false) S S := ⟨hin, st_same_rfl _ _, h5⟩
  have hb : st_beg S q.1 c xs := by unfold st_beg; rw [hk]; exact hok
  unfold sp_ext
  rw [hk]
  by_cases hwr : (if sp_ah q k = 0 then left ≠ 0 else left < sp_ah q k)
  · rw [if_pos hwr]
    exact ex_ret hi hw hc d h (by omega) (by omega) S hin.1 hok hk hwr ⟨rfl, S, rfl, hsame⟩
  rw [if_neg hwr]
  refine ex_68 hi hw hc d h (by omega) (by omega) S hin.1 hok hk hwr ?_
  by_cases h10 : sp_par q k = 10
  · rw [h10]
    refine ex_hop1 hi hw hc d h (by omega) (by omega) S hin.1 hok hk hgx (fun hh => ?_) (fun hh => ?_)
    · rw [sp_hop1 hk5] at hh
      rw [if_pos ⟨Or.inl rfl, by simpa using hh⟩]
      exact ⟨rfl, S, rfl, hsame⟩
    · rw [sp_hop1 hk5] at hh
      rw [if_neg (fun z => by rw [hh] at z; cases z.2), if_pos rfl]
      have hl0' : left = 0 := by
        by_cases ha : sp_ah q k = 0
        · rw [if_pos ha] at hwr; omega
        · exfalso
          apply ha
          have hk4 : k < 4 := by omega
          have g1 := hqc.2.2.1
          have g2 := hqc.2.2.2.1
          rcases (show k = 0 ∨ k = 1 ∨ k = 2 ∨ k = 3 by omega) with rfl | rfl | rfl | rfl
          · have z0 : q.2.1 = 10 := h10
            have z1 := g1 z0
            have z2 := g2 z1
            simp [sp_ah, sp_isT, z0, z1, z2]
          · have z1 : q.2.2.1 = 10 := h10
            have z2 := g2 z1
            simp [sp_ah, sp_isT, z1, z2]
          · have z2 : q.2.2.2.1 = 10 := h10
            simp [sp_ah, sp_isT, z2]
          · rfl
      refine ex_keep hi hw hc d h (by omega) (by omega) S hin.1 hok hk hin h5 hx hq4 (fun S' o' => ⟨rfl, S', rfl, ?_⟩)
      rw [List.map_singleton, sp_pushes_one]
      refine ⟨⟨st_same_g o'.2.1 hin.1, st_same_fix o'.2.1 hin.2.1, o'.1, ?_, ?_, st_same_ends o'.2.1 hin.2.2.2.2.2⟩, st_same_le (by omega) o'.2.1, o'.2.2⟩
      · by_cases hl : T.length = 300
        · simp [sp_push, hl]; exact hin.2.2.2.1
        · simp [sp_push, hl]
          exact sp_wT_snoc hin.2.2.2.1 hin.2.2.2.2.1 (by have := hin.2.2.2.1.1; omega) hx hw.2.1 hq4 (by omega)
      · by_cases hl : T.length = 300
        · simp [sp_push, hl]; exact hin.2.2.2.2.1
        · simp [sp_push, hl]; exact sp_pre_snoc hin.2.2.2.2.1 _
  · have hk3 : k < 3 := by
      rcases (show k < 3 ∨ k = 3 by omega) with z | z
      · exact z
      · subst z; exact absurd rfl h10
    have hpp := hqc.2.1 k hk3
    have hx3 : xs.length < 3 := by omega
    have hpI : sp_pI (sp_par q k) = nI (sp_par q k) := if_neg h10
    have hp9 : sp_par q k ≤ 9 := by have := hw.2.2.1; omega
    have hn1 : ¬ sp_pI (sp_par q k) = -1 := by
      rw [hpI]
      intro z
      have := nI_pos (n := sp_par q k) (by omega)
      rw [z] at this
      exact this (by decide)
    refine ex_hop0 hi hw hc d h (by omega) (by omega) S hin.1 hok hk hgx hn1 (fun hh => ?_) (fun hh => ?_)
    · rw [sp_hop0 hk5] at hh
      have hh := Classical.not_not.mp hh
      rw [if_pos ⟨Or.inr hh.1, hh.2⟩]
      exact ⟨rfl, S, rfl, hsame⟩
    · rw [sp_hop0 hk5] at hh
      rw [if_neg (fun z => hh ⟨z.1.resolve_left h10, z.2⟩), if_neg h10]
      by_cases h9 : sp_par q k = 9
      · rw [if_pos h9, h9]
        subst hk
        refine ex_num (p := 0) hi hw hc d h (by omega) (by omega) S hin.1 hok rfl (R9 := fun S' => st_out g T0 s xs.length (sp_pushes (T, false) (((List.range' g.1 (g.2.1 + 1 - g.1)).flatMap (fun m => sp_ext T0 g.1 g.2.1 q n (xs ++ [.inl m]) left)).map (fun ys => (q.1, c, ys)))) S S') ?_ (fun S' o' => ⟨rfl, S', rfl, o'⟩)
        exact ch_extNum hi hw hc hs7 IH d (by omega) h hx (by omega) hsz hl0 hx3 S T hin h5 hb (fun S' o' => ⟨rfl, S', rfl, o'⟩)
      · rw [if_neg h9]
        have hp4 : sp_par q k < 4 := by have := hw.2.2.1; omega
        have hah : 1 ≤ sp_ah q k ∧ ¬ sp_ah q k = 0 := by
          have : sp_isT (sp_par q k) = 1 := if_pos (by omega)
          rcases (show k = 0 ∨ k = 1 ∨ k = 2 by omega) with rfl | rfl | rfl
          · have z : sp_isT q.2.1 = 1 := this
            simp only [sp_ah, z]; omega
          · have z : sp_isT q.2.2.1 = 1 := this
            simp only [sp_ah, z]; omega
          · have z : sp_isT q.2.2.2.1 = 1 := this
            simp only [sp_ah, z]; omega
        rw [if_neg hah.2] at hwr
        subst hk
        rw [hpI] at hn1 ⊢
        refine ex_part hi hw hc d h (by omega) (by omega) S hin.1 hok rfl hn1 (il_ne _ 9 h9 rfl rfl (by omega)) (R9 := fun S' => st_out g T0 s xs.length (sp_pushes (T, false) (((((sp_of T0 (sp_par q xs.length)).take (sp_upto T0 (sp_par q xs.length) (left - (sp_ah q xs.length - 1)))).drop (sp_upto T0 (sp_par q xs.length) ((if sp_ah q xs.length = 1 then left else 1) - 1))).flatMap (fun v => match T0[v]? with
          | some e => if sp_clash q.2.2.2.2 xs (sp_att v e) then [] else sp_ext T0 g.1 g.2.1 q n (xs ++ [.inr (sp_att v e)]) (left - (1 + sp_size e.2.2))
          | none => [])).map (fun ys => (q.1, c, ys)))) S S') ?_ (fun S' o' => ⟨rfl, S', rfl, o'⟩)
        exact ch_extPart hi hw hc hs7 IH d (by omega) h hx (by omega) hsz hl0 hx3 hsrt hp4 hah.1 (by omega) S T hin h5 hb (fun S' o' => ⟨rfl, S', rfl, o'⟩)
theorem ch_extend {G : ax_G} {ad : cs_K → Nat} (hi : cs_inj ad) {g : sp_G} {T0 : List sp_E} {s c : Nat} {q : sp_C} (hw : sp_wg g) (hc : g.2.2.2[c]? = some q) (hs7 : s ≤ 7) (hl0 : T0.length ≤ 300) (hsrt : sp_srt T0) : ∀ n, st_EX G ad g T0 s c q n := by
  intro n
  induction n with
  | zero => exact st_EX0
  | succ n ih => exact st_EXs hi hw hc hs7 hl0 hsrt ih

