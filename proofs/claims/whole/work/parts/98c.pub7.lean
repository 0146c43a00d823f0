/-! ===== the class: draw ===== -/
section PUB7
variable {G : ax_G} {ad : cs_K → Nat}

set_option maxRecDepth 100000 in
set_option maxHeartbeats 4000000 in
theorem pb_draw (hi : cs_inj ad) (d : Nat) (S : cs_S) (h : ax_H) {σ : sp_St} (hC : CI σ S) (t : Int32) (s : Int32) (zs : Int64) : AW G mX6_draw (d + 16) 1 6 (pb_Q ad h (pb_nm ["java/lang/IndexOutOfBoundsException", "java/lang/IllegalArgumentException", "java/lang/IllegalStateException", "java/util/NoSuchElementException"]) (po_draw σ t s zs)) 0 [(0, .ref (ad (0, 0))), (1, .int t), (2, .int s), (3, .long zs)] [] (cs_O ad S h) 0 0 := by
  cases hk1 : po_isT σ t with
  | false =>
    have ha : po_asks σ t s = 1 := if_pos hk1
    rw [show po_draw σ t s zs = ((1, 0), σ) from by unfold po_draw; rw [if_pos (by rw [ha]; decide), ha]]
    refine ax_aload_n dX6_draw_0 rfl ?_
    refine ax_iload_n dX6_draw_1 rfl ?_
    refine ax_callV (b := (ad (0, 0))) (av := [.int t]) (rest := []) (mc' := 1) (ms' := 6) dX6_draw_2 rfl lkX6_75 (cs_get hi (cs_k0 (by decide))) rfl (Nat.le_of_ble_eq_true rfl) (Nat.le_of_ble_eq_true rfl) (by decide) (by decide) (rq_typeN hi _ S h hC hk1) (fun E9 h9 q9 => by obtain ⟨e9, rfl⟩ := q9; cases e9; exact ⟨rfl, _, rfl, hC⟩) (fun v9 h9 q9 => ?_)
    cases q9.1
  | true =>
    by_cases hk2 : s < 1 ∨ 8 < s
    · have ha : po_asks σ t s = 2 := (if_neg (by rw [hk1]; decide)).trans (if_pos hk2)
      rw [show po_draw σ t s zs = ((2, 0), σ) from by unfold po_draw; rw [if_pos (by rw [ha]; decide), ha]]
      refine ax_aload_n dX6_draw_0 rfl ?_
      refine ax_iload_n dX6_draw_1 rfl ?_
      refine ax_callV (b := (ad (0, 0))) (av := [.int t]) (rest := []) (mc' := 0) (ms' := 0) dX6_draw_2 rfl lkX6_75 (cs_get hi (cs_k0 (by decide))) rfl (Nat.le_of_ble_eq_true rfl) (Nat.le_of_ble_eq_true rfl) (by decide) (by decide) (rq_typeY hi _ S h hC hk1) (fun E9 h9 q9 => by cases q9.1) (fun v9 h9 q9 => ?_)
      obtain ⟨e9, rfl⟩ := q9
      cases e9
      show AW G mX6_draw (d + 16) 1 6 _ 5 [(0, .ref (ad (0, 0))), (1, .int t), (2, .int s), (3, .long zs)] [] (cs_O ad S h) 0 0
      refine ax_aload_n dX6_draw_5 rfl ?_
      refine ax_iload_n dX6_draw_6 rfl ?_
      refine ax_callV (b := (ad (0, 0))) (av := [.int s]) (rest := []) (mc' := 1) (ms' := 6) dX6_draw_7 rfl lkX6_102 (cs_get hi (cs_k0 (by decide))) rfl (Nat.le_of_ble_eq_true rfl) (Nat.le_of_ble_eq_true rfl) (by decide) (by decide) (rq_sizeN _ S h hk2) (fun E9 h9 q9 => by obtain ⟨e9, rfl⟩ := q9; cases e9; exact ⟨rfl, _, rfl, hC⟩) (fun v9 h9 q9 => ?_)
      cases q9.1
    · by_cases hk3 : nI (po_H σ) < s
      · have ha : po_asks σ t s = 3 := (if_neg (by rw [hk1]; decide)).trans ((if_neg hk2).trans (if_pos hk3))
        rw [show po_draw σ t s zs = ((3, 0), σ) from by unfold po_draw; rw [if_pos (by rw [ha]; decide), ha]]
        refine ax_aload_n dX6_draw_0 rfl ?_
        refine ax_iload_n dX6_draw_1 rfl ?_
        refine ax_callV (b := (ad (0, 0))) (av := [.int t]) (rest := []) (mc' := 0) (ms' := 0) dX6_draw_2 rfl lkX6_75 (cs_get hi (cs_k0 (by decide))) rfl (Nat.le_of_ble_eq_true rfl) (Nat.le_of_ble_eq_true rfl) (by decide) (by decide) (rq_typeY hi _ S h hC hk1) (fun E9 h9 q9 => by cases q9.1) (fun v9 h9 q9 => ?_)
        obtain ⟨e9, rfl⟩ := q9
        cases e9
        show AW G mX6_draw (d + 16) 1 6 _ 5 [(0, .ref (ad (0, 0))), (1, .int t), (2, .int s), (3, .long zs)] [] (cs_O ad S h) 0 0
        refine ax_aload_n dX6_draw_5 rfl ?_
        refine ax_iload_n dX6_draw_6 rfl ?_
        refine ax_callV (b := (ad (0, 0))) (av := [.int s]) (rest := []) (mc' := 0) (ms' := 0) dX6_draw_7 rfl lkX6_102 (cs_get hi (cs_k0 (by decide))) rfl (Nat.le_of_ble_eq_true rfl) (Nat.le_of_ble_eq_true rfl) (by decide) (by decide) (rq_sizeY _ S h hk2) (fun E9 h9 q9 => by cases q9.1) (fun v9 h9 q9 => ?_)
        obtain ⟨e9, rfl⟩ := q9
        cases e9
        show AW G mX6_draw (d + 16) 1 6 _ 10 [(0, .ref (ad (0, 0))), (1, .int t), (2, .int s), (3, .long zs)] [] (cs_O ad S h) 0 0
        refine ax_aload_n dX6_draw_10 rfl ?_
        refine ax_iload_n dX6_draw_11 rfl ?_
        refine ax_callV (b := (ad (0, 0))) (av := [.int s]) (rest := []) (mc' := 1) (ms' := 6) dX6_draw_12 rfl lkX6_105 (cs_get hi (cs_k0 (by decide))) rfl (Nat.le_of_ble_eq_true rfl) (Nat.le_of_ble_eq_true rfl) (by decide) (by decide) (rq_knownN hi _ S h hC hk3 (Q := fun r h1 => r = .inr "java/lang/IllegalStateException" ∧ ∃ S', h1 = cs_O ad S' h ∧ CI σ S') (fun S' a => ⟨rfl, S', rfl, a⟩)) (fun E9 h9 q9 => by obtain ⟨e9, S1, rfl, o1⟩ := q9; cases e9; exact ⟨rfl, S1, rfl, o1⟩) (fun v9 h9 q9 => ?_)
        cases q9.1
      · have ha : po_asks σ t s = 0 := (if_neg (by rw [hk1]; decide)).trans ((if_neg hk2).trans (if_neg hk3))
        obtain ⟨t, rfl, -, ht4⟩ := po_isT_nat hC.1 hk1
        obtain ⟨z, rfl, hz1, hz8⟩ := i_rng hk2
        obtain ⟨z, rfl⟩ : ∃ k, z = k + 1 := ⟨z - 1, by omega⟩
        have hzh : z + 1 ≤ po_H σ := by
          have := i_not_le hk3
          by_cases hb : po_H σ < 2 ^ 31
          · exact (nI_leI (by omega) hb).mp this
          · omega
        have u1 : po_up σ (nI t) (nI (z + 1)).toNatClampNeg = sp_upto (po_T σ) t (z + 1) := by unfold po_up; rw [nI_clamp (by omega), nI_clamp (by omega)]
        have u2 : po_up σ (nI t) ((nI (z + 1)).toNatClampNeg - 1) = sp_upto (po_T σ) t (z) := by unfold po_up; rw [nI_clamp (by omega), nI_clamp (by omega)]; rfl
        have hm := sp_upto_mono (po_T σ) t (a := z) (b := z + 1) (by omega)
        have hul := sp_upto_le (po_T σ) t (z + 1)
        have hc3 : sp_cnt (po_T σ) t ≤ 300 := Nat.le_trans (sp_cnt_le _ _) (tb_ok hC.1).1.1
        by_cases h0 : sp_upto (po_T σ) t (z + 1) - sp_upto (po_T σ) t (z) = 0
        · have e0 : po_draw σ (nI t) (nI (z + 1)) zs = ((4, 0), σ) := by
            unfold po_draw
            rw [if_neg (fun w => w ha), u1, u2, if_pos h0]
          rw [e0]
          refine ax_aload_n dX6_draw_0 rfl ?_
          refine ax_iload_n dX6_draw_1 rfl ?_
          refine ax_callV (b := (ad (0, 0))) (av := [.int (nI t)]) (rest := []) (mc' := 0) (ms' := 0) dX6_draw_2 rfl lkX6_75 (cs_get hi (cs_k0 (by decide))) rfl (Nat.le_of_ble_eq_true rfl) (Nat.le_of_ble_eq_true rfl) (by decide) (by decide) (rq_typeY hi _ S h hC hk1) (fun E9 h9 q9 => by cases q9.1) (fun v9 h9 q9 => ?_)
          obtain ⟨e9, rfl⟩ := q9
          cases e9
          show AW G mX6_draw (d + 16) 1 6 _ 5 [(0, .ref (ad (0, 0))), (1, .int (nI t)), (2, .int (nI (z + 1))), (3, .long zs)] [] (cs_O ad S h) 0 0
          refine ax_aload_n dX6_draw_5 rfl ?_
          refine ax_iload_n dX6_draw_6 rfl ?_
          refine ax_callV (b := (ad (0, 0))) (av := [.int (nI (z + 1))]) (rest := []) (mc' := 0) (ms' := 0) dX6_draw_7 rfl lkX6_102 (cs_get hi (cs_k0 (by decide))) rfl (Nat.le_of_ble_eq_true rfl) (Nat.le_of_ble_eq_true rfl) (by decide) (by decide) (rq_sizeY _ S h hk2) (fun E9 h9 q9 => by cases q9.1) (fun v9 h9 q9 => ?_)
          obtain ⟨e9, rfl⟩ := q9
          cases e9
          show AW G mX6_draw (d + 16) 1 6 _ 10 [(0, .ref (ad (0, 0))), (1, .int (nI t)), (2, .int (nI (z + 1))), (3, .long zs)] [] (cs_O ad S h) 0 0
          refine ax_aload_n dX6_draw_10 rfl ?_
          refine ax_iload_n dX6_draw_11 rfl ?_
          refine ax_callV (b := (ad (0, 0))) (av := [.int (nI (z + 1))]) (rest := []) (mc' := 0) (ms' := 0) dX6_draw_12 rfl lkX6_105 (cs_get hi (cs_k0 (by decide))) rfl (Nat.le_of_ble_eq_true rfl) (Nat.le_of_ble_eq_true rfl) (by decide) (by decide) (rq_knownY hi _ S h hC hk3 (Q := fun r h1 => r = .inl none ∧ ∃ S', h1 = cs_O ad S' h ∧ CI σ S' ∧ st_fin σ.1 (sp_tab σ.1) S') (fun S' a b => ⟨rfl, S', rfl, a, b⟩)) (fun E9 h9 q9 => by cases q9.1) (fun v9 h9 q9 => ?_)
          obtain ⟨e9, S1, rfl, o1, o2⟩ := q9
          cases e9
          show AW G mX6_draw (d + 16) 1 6 _ 15 [(0, .ref (ad (0, 0))), (1, .int (nI t)), (2, .int (nI (z + 1))), (3, .long zs)] [] (cs_O ad S1 h) 0 0
          refine ax_aload_n dX6_draw_15 rfl ?_
          refine ax_get (v := .ref (ad (0, 6))) dX6_draw_16 fkX6_21 (cs_get hi (cs_k0 (by decide))) rfl ?_
          refine ax_iload_n dX6_draw_19 rfl ?_
          refine ax_iload_n dX6_draw_20 rfl ?_
          refine ax_iconst (v := 1) dX6_draw_21 (by decide) ?_
          refine ax_isub dX6_draw_22 ?_
          refine ax_top (y := (nI z)) (nI_pred z) ?_
          refine ax_callV (b := (ad (0, 6))) (av := [.int (nI t), .int (nI z)]) (rest := []) (mc' := 0) (ms' := 0) dX6_draw_23 rfl lkX6_108 (cs_get hi (cs_k0 (by decide))) rfl (Nat.le_of_ble_eq_true rfl) (Nat.le_of_ble_eq_true rfl) (by decide) (by decide) (ch_up hi _ S1 h o2 ht4 (z := z) (by show _ ≤ po_H σ; omega)) (fun E9 h9 q9 => by cases q9.1) (fun v9 h9 q9 => ?_)
          obtain ⟨e9, rfl⟩ := q9
          cases e9
          show AW G mX6_draw (d + 16) 1 6 _ 26 [(0, .ref (ad (0, 0))), (1, .int (nI t)), (2, .int (nI (z + 1))), (3, .long zs)] [.int (nI (sp_upto (po_T σ) t (z)))] (cs_O ad S1 h) 0 0
          refine ax_istore dX6_draw_26 (by decide) ?_
          refine ax_sub (lv' := [(0, .ref (ad (0, 0))), (1, .int (nI t)), (2, .int (nI (z + 1))), (3, .long zs), (5, .int (nI (sp_upto (po_T σ) t (z))))]) (fun _ z => z) ?_
          refine ax_aload_n dX6_draw_28 rfl ?_
          refine ax_get (v := .ref (ad (0, 6))) dX6_draw_29 fkX6_21 (cs_get hi (cs_k0 (by decide))) rfl ?_
          refine ax_iload_n dX6_draw_32 rfl ?_
          refine ax_iload_n dX6_draw_33 rfl ?_
          refine ax_callV (b := (ad (0, 6))) (av := [.int (nI t), .int (nI (z + 1))]) (rest := []) (mc' := 0) (ms' := 0) dX6_draw_34 rfl lkX6_108 (cs_get hi (cs_k0 (by decide))) rfl (Nat.le_of_ble_eq_true rfl) (Nat.le_of_ble_eq_true rfl) (by decide) (by decide) (ch_up hi _ S1 h o2 ht4 (z := z + 1) (by show _ ≤ po_H σ; omega)) (fun E9 h9 q9 => by cases q9.1) (fun v9 h9 q9 => ?_)
          obtain ⟨e9, rfl⟩ := q9
          cases e9
          show AW G mX6_draw (d + 16) 1 6 _ 37 [(0, .ref (ad (0, 0))), (1, .int (nI t)), (2, .int (nI (z + 1))), (3, .long zs), (5, .int (nI (sp_upto (po_T σ) t (z))))] [.int (nI (sp_upto (po_T σ) t (z + 1)))] (cs_O ad S1 h) 0 0
          refine ax_iload dX6_draw_37 rfl ?_
          refine ax_isub dX6_draw_39 ?_
          refine ax_top (y := (nI (sp_upto (po_T σ) t (z + 1) - sp_upto (po_T σ) t (z)))) (pk_sub (sp_upto_mono _ _ (by omega))) ?_
          refine ax_istore dX6_draw_40 (by decide) ?_
          refine ax_sub (lv' := [(0, .ref (ad (0, 0))), (1, .int (nI t)), (2, .int (nI (z + 1))), (3, .long zs), (5, .int (nI (sp_upto (po_T σ) t (z)))), (6, .int (nI (sp_upto (po_T σ) t (z + 1) - sp_upto (po_T σ) t (z))))]) (fun _ z => z) ?_
          refine ax_iload dX6_draw_42 rfl ?_
          refine ax_if_gt (tgt := 57) dX6_draw_44 (by decide) (fun z => absurd z (by rw [h0]; decide)) (fun _ => ?_)
          exact ax_throwN rfl (thNSE (List.mem_of_getElem? (i := 7) rfl)) dX6_draw_47 dX6_draw_50 dX6_draw_51 dX6_draw_53 dX6_draw_56 (by decide) (by decide) (by decide) ⟨rfl, S1, rfl, o1⟩
        · have hpos : 0 < sp_upto (po_T σ) t (z + 1) - sp_upto (po_T σ) t (z) := by omega
          have hlt := Nat.mod_lt (po_seed zs) hpos
          have hrl : (sp_upto (po_T σ) t (z) + po_seed zs % (sp_upto (po_T σ) t (z + 1) - sp_upto (po_T σ) t (z))) < (sp_of (po_T σ) t).length := by rw [sp_of_len]; omega
          obtain ⟨w, hw⟩ : ∃ w, (sp_of (po_T σ) t)[(sp_upto (po_T σ) t (z) + po_seed zs % (sp_upto (po_T σ) t (z + 1) - sp_upto (po_T σ) t (z)))]? = some w := ⟨_, List.getElem?_eq_getElem hrl⟩
          have hat : po_at (po_T σ) t (sp_upto (po_T σ) t (z) + po_seed zs % (sp_upto (po_T σ) t (z + 1) - sp_upto (po_T σ) t (z))) = w := by unfold po_at; rw [hw]; rfl
          obtain ⟨g1, g2, g3⟩ := sp_rk_of hw
          have e0 : po_draw σ (nI t) (nI (z + 1)) zs = ((0, (nI (sp_upto (po_T σ) t (z) + po_seed zs % (sp_upto (po_T σ) t (z + 1) - sp_upto (po_T σ) t (z))))), (σ.1, σ.2.1, some w)) := by
            unfold po_draw
            rw [if_neg (fun w => w ha), u1, u2, if_neg h0, show (nI t).toNatClampNeg = t from nI_clamp (by omega), hat]
          rw [e0]
          refine ax_aload_n dX6_draw_0 rfl ?_
          refine ax_iload_n dX6_draw_1 rfl ?_
          refine ax_callV (b := (ad (0, 0))) (av := [.int (nI t)]) (rest := []) (mc' := 0) (ms' := 0) dX6_draw_2 rfl lkX6_75 (cs_get hi (cs_k0 (by decide))) rfl (Nat.le_of_ble_eq_true rfl) (Nat.le_of_ble_eq_true rfl) (by decide) (by decide) (rq_typeY hi _ S h hC hk1) (fun E9 h9 q9 => by cases q9.1) (fun v9 h9 q9 => ?_)
          obtain ⟨e9, rfl⟩ := q9
          cases e9
          show AW G mX6_draw (d + 16) 1 6 _ 5 [(0, .ref (ad (0, 0))), (1, .int (nI t)), (2, .int (nI (z + 1))), (3, .long zs)] [] (cs_O ad S h) 0 0
          refine ax_aload_n dX6_draw_5 rfl ?_
          refine ax_iload_n dX6_draw_6 rfl ?_
          refine ax_callV (b := (ad (0, 0))) (av := [.int (nI (z + 1))]) (rest := []) (mc' := 0) (ms' := 0) dX6_draw_7 rfl lkX6_102 (cs_get hi (cs_k0 (by decide))) rfl (Nat.le_of_ble_eq_true rfl) (Nat.le_of_ble_eq_true rfl) (by decide) (by decide) (rq_sizeY _ S h hk2) (fun E9 h9 q9 => by cases q9.1) (fun v9 h9 q9 => ?_)
          obtain ⟨e9, rfl⟩ := q9
          cases e9
          show AW G mX6_draw (d + 16) 1 6 _ 10 [(0, .ref (ad (0, 0))), (1, .int (nI t)), (2, .int (nI (z + 1))), (3, .long zs)] [] (cs_O ad S h) 0 0
          refine ax_aload_n dX6_draw_10 rfl ?_
          refine ax_iload_n dX6_draw_11 rfl ?_
          refine ax_callV (b := (ad (0, 0))) (av := [.int (nI (z + 1))]) (rest := []) (mc' := 0) (ms' := 0) dX6_draw_12 rfl lkX6_105 (cs_get hi (cs_k0 (by decide))) rfl (Nat.le_of_ble_eq_true rfl) (Nat.le_of_ble_eq_true rfl) (by decide) (by decide) (rq_knownY hi _ S h hC hk3 (Q := fun r h1 => r = .inl none ∧ ∃ S', h1 = cs_O ad S' h ∧ CI σ S' ∧ st_fin σ.1 (sp_tab σ.1) S') (fun S' a b => ⟨rfl, S', rfl, a, b⟩)) (fun E9 h9 q9 => by cases q9.1) (fun v9 h9 q9 => ?_)
          obtain ⟨e9, S1, rfl, o1, o2⟩ := q9
          cases e9
          show AW G mX6_draw (d + 16) 1 6 _ 15 [(0, .ref (ad (0, 0))), (1, .int (nI t)), (2, .int (nI (z + 1))), (3, .long zs)] [] (cs_O ad S1 h) 0 0
          refine ax_aload_n dX6_draw_15 rfl ?_
          refine ax_get (v := .ref (ad (0, 6))) dX6_draw_16 fkX6_21 (cs_get hi (cs_k0 (by decide))) rfl ?_
          refine ax_iload_n dX6_draw_19 rfl ?_
          refine ax_iload_n dX6_draw_20 rfl ?_
          refine ax_iconst (v := 1) dX6_draw_21 (by decide) ?_
          refine ax_isub dX6_draw_22 ?_
          refine ax_top (y := (nI z)) (nI_pred z) ?_
          refine ax_callV (b := (ad (0, 6))) (av := [.int (nI t), .int (nI z)]) (rest := []) (mc' := 0) (ms' := 0) dX6_draw_23 rfl lkX6_108 (cs_get hi (cs_k0 (by decide))) rfl (Nat.le_of_ble_eq_true rfl) (Nat.le_of_ble_eq_true rfl) (by decide) (by decide) (ch_up hi _ S1 h o2 ht4 (z := z) (by show _ ≤ po_H σ; omega)) (fun E9 h9 q9 => by cases q9.1) (fun v9 h9 q9 => ?_)
          obtain ⟨e9, rfl⟩ := q9
          cases e9
          show AW G mX6_draw (d + 16) 1 6 _ 26 [(0, .ref (ad (0, 0))), (1, .int (nI t)), (2, .int (nI (z + 1))), (3, .long zs)] [.int (nI (sp_upto (po_T σ) t (z)))] (cs_O ad S1 h) 0 0
          refine ax_istore dX6_draw_26 (by decide) ?_
          refine ax_sub (lv' := [(0, .ref (ad (0, 0))), (1, .int (nI t)), (2, .int (nI (z + 1))), (3, .long zs), (5, .int (nI (sp_upto (po_T σ) t (z))))]) (fun _ z => z) ?_
          refine ax_aload_n dX6_draw_28 rfl ?_
          refine ax_get (v := .ref (ad (0, 6))) dX6_draw_29 fkX6_21 (cs_get hi (cs_k0 (by decide))) rfl ?_
          refine ax_iload_n dX6_draw_32 rfl ?_
          refine ax_iload_n dX6_draw_33 rfl ?_
          refine ax_callV (b := (ad (0, 6))) (av := [.int (nI t), .int (nI (z + 1))]) (rest := []) (mc' := 0) (ms' := 0) dX6_draw_34 rfl lkX6_108 (cs_get hi (cs_k0 (by decide))) rfl (Nat.le_of_ble_eq_true rfl) (Nat.le_of_ble_eq_true rfl) (by decide) (by decide) (ch_up hi _ S1 h o2 ht4 (z := z + 1) (by show _ ≤ po_H σ; omega)) (fun E9 h9 q9 => by cases q9.1) (fun v9 h9 q9 => ?_)
          obtain ⟨e9, rfl⟩ := q9
          cases e9
          show AW G mX6_draw (d + 16) 1 6 _ 37 [(0, .ref (ad (0, 0))), (1, .int (nI t)), (2, .int (nI (z + 1))), (3, .long zs), (5, .int (nI (sp_upto (po_T σ) t (z))))] [.int (nI (sp_upto (po_T σ) t (z + 1)))] (cs_O ad S1 h) 0 0
          refine ax_iload dX6_draw_37 rfl ?_
          refine ax_isub dX6_draw_39 ?_
          refine ax_top (y := (nI (sp_upto (po_T σ) t (z + 1) - sp_upto (po_T σ) t (z)))) (pk_sub (sp_upto_mono _ _ (by omega))) ?_
          refine ax_istore dX6_draw_40 (by decide) ?_
          refine ax_sub (lv' := [(0, .ref (ad (0, 0))), (1, .int (nI t)), (2, .int (nI (z + 1))), (3, .long zs), (5, .int (nI (sp_upto (po_T σ) t (z)))), (6, .int (nI (sp_upto (po_T σ) t (z + 1) - sp_upto (po_T σ) t (z))))]) (fun _ z => z) ?_
          refine ax_iload dX6_draw_42 rfl ?_
          refine ax_if_gt (tgt := 57) dX6_draw_44 (by decide) (fun _ => ?_) (fun z => absurd (il_lt 0 _ hpos) z)
          refine ax_lload_n dX6_draw_57 rfl ?_
          refine ax_ldc2 dX6_draw_58 lcX6_140 ?_
          refine ax_lmul dX6_draw_61 ?_
          refine ax_ldc2 dX6_draw_62 lcX6_142 ?_
          refine ax_ladd dX6_draw_65 ?_
          refine ax_lstore dX6_draw_66 (by decide) ?_
          refine ax_sub (lv' := [(0, .ref (ad (0, 0))), (1, .int (nI t)), (2, .int (nI (z + 1))), (3, .long zs), (5, .int (nI (sp_upto (po_T σ) t (z)))), (6, .int (nI (sp_upto (po_T σ) t (z + 1) - sp_upto (po_T σ) t (z)))), (7, .long ((zs * (6364136223846793005 : Int64)) + (1442695040888963407 : Int64)))]) (fun _ z => z) ?_
          refine ax_iload dX6_draw_68 rfl ?_
          refine ax_lload dX6_draw_70 rfl ?_
          refine ax_bipush (v := 33) dX6_draw_72 (by decide) ?_
          refine ax_lushr dX6_draw_74 ?_
          refine ax_iload dX6_draw_75 rfl ?_
          refine ax_i2l dX6_draw_77 ?_
          refine ax_lrem dX6_draw_78 (fun zz => by rw [nI_l (by omega), show (0 : Int64) = lN 0 by decide, lN_eq (by omega) (by omega)] at zz; omega) ?_
          refine ax_l2i dX6_draw_79 ?_
          refine ax_top (dr_r _ hpos (by omega)) ?_
          refine ax_iadd dX6_draw_80 ?_
          refine ax_top (y := (nI (sp_upto (po_T σ) t (z) + po_seed zs % (sp_upto (po_T σ) t (z + 1) - sp_upto (po_T σ) t (z))))) (nI_add _ _) ?_
          have hw3 : w < 300 := Nat.lt_of_lt_of_le g1 o2.2.2.2.1.1
          refine ax_istore dX6_draw_81 (by decide) ?_
          refine ax_sub (lv' := [(0, .ref (ad (0, 0))), (1, .int (nI t)), (2, .int (nI (z + 1))), (3, .long zs), (5, .int (nI (sp_upto (po_T σ) t (z)))), (6, .int (nI (sp_upto (po_T σ) t (z + 1) - sp_upto (po_T σ) t (z)))), (7, .long ((zs * (6364136223846793005 : Int64)) + (1442695040888963407 : Int64))), (9, .int (nI (sp_upto (po_T σ) t (z) + po_seed zs % (sp_upto (po_T σ) t (z + 1) - sp_upto (po_T σ) t (z)))))]) (fun _ z => z) ?_
          refine ax_aload_n dX6_draw_83 rfl ?_
          refine ax_aload_n dX6_draw_84 rfl ?_
          refine ax_get (v := .ref (ad (0, 6))) dX6_draw_85 fkX6_21 (cs_get hi (cs_k0 (by decide))) rfl ?_
          refine ax_iload_n dX6_draw_88 rfl ?_
          refine ax_iload dX6_draw_89 rfl ?_
          refine ax_callV (b := (ad (0, 6))) (av := [.int (nI t), .int (nI (sp_upto (po_T σ) t (z) + po_seed zs % (sp_upto (po_T σ) t (z + 1) - sp_upto (po_T σ) t (z))))]) (rest := [.ref (ad (0, 0))]) (mc' := 0) (ms' := 0) dX6_draw_91 rfl lkX6_115 (cs_get hi (cs_k0 (by decide))) rfl (Nat.le_of_ble_eq_true rfl) (Nat.le_of_ble_eq_true rfl) (by decide) (by decide) (ch_vat hi _ S1 h o2 hw) (fun E9 h9 q9 => by cases q9.1) (fun v9 h9 q9 => ?_)
          obtain ⟨e9, rfl⟩ := q9
          cases e9
          show AW G mX6_draw (d + 16) 1 6 _ 94 [(0, .ref (ad (0, 0))), (1, .int (nI t)), (2, .int (nI (z + 1))), (3, .long zs), (5, .int (nI (sp_upto (po_T σ) t (z)))), (6, .int (nI (sp_upto (po_T σ) t (z + 1) - sp_upto (po_T σ) t (z)))), (7, .long ((zs * (6364136223846793005 : Int64)) + (1442695040888963407 : Int64))), (9, .int (nI (sp_upto (po_T σ) t (z) + po_seed zs % (sp_upto (po_T σ) t (z + 1) - sp_upto (po_T σ) t (z)))))] [.ref (ad (1, w)), .ref (ad (0, 0))] (cs_O ad S1 h) 0 0
          refine ax_put dX6_draw_94 fpX6_46 (cs_get hi (cs_k0 (by decide))) rfl rfl (Nat.le_of_ble_eq_true rfl) ?_
          refine ax_eqh (cs_pl hi (o := some w)) ?_
          refine ax_iload dX6_draw_97 rfl ?_
          refine ax_iret (st := []) dX6_draw_99 rfl rfl ⟨rfl, _, rfl, ?_⟩
          exact CI_mv o1 (S' := cs_setL S1 (some w)) ⟨fun _ _ _ _ => rfl, fun _ _ => rfl, fun _ _ => rfl, fun _ _ => ⟨rfl, rfl, rfl⟩⟩ o1.2.2.2.1 rfl (fun v hv => by cases hv; exact ⟨g1, o2.2.2.2.2.2.2.2.2.2⟩)
end PUB7
