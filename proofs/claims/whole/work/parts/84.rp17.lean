/-! ===== the reference: addConstructor, whole ===== -/
theorem in_05 {s : Int32} : ((0 : Int32) ≤ s ∧ s ≤ 5) ↔ ¬ (s < 0 ∨ 5 < s) := by
  constructor
  · rintro ⟨a, b⟩ (z | z)
    · exact i_le_not a z
    · exact i_le_not b z
  · intro z
    exact ⟨i_not_le (fun w => z (Or.inl w)), i_not_le (fun w => z (Or.inr w))⟩
theorem in_5n {s : Int32} (h : (0 : Int32) ≤ s ∧ s ≤ 5) : ∃ z, s = nI z ∧ z ≤ 5 := by
  obtain ⟨h1, h2⟩ := h
  rw [Int32.le_iff_toInt_le] at h1 h2
  have e0 : (0 : Int32).toInt = 0 := by decide
  have e5 : (5 : Int32).toInt = 5 := by decide
  rw [e0] at h1; rw [e5] at h2
  refine ⟨s.toInt.toNat, ?_, by omega⟩
  rw [← Int32.toInt_inj, nI_toInt (by omega)]
  omega
section RP17
variable {G : ax_G} {A : rw_Ad}
set_option maxRecDepth 100000 in
set_option maxHeartbeats 4000000 in
theorem ac_a0 (hA : rw_nd A) (d : Nat) (R : rw_S) (h : ax_H) {σ : sp_St} (hR : RI A σ R h) (t a b c k : Int32) (hT : po_isT σ t = true) {Q : ax_P} (kk : AW G mX7_addConstructor (d + 48) 1 3 Q 19 [(0, .ref (A.1 0)), (1, .int t), (2, .int a), (3, .int b), (4, .int c), (5, .int k)] [] (rw_O A (rw_setS R 0 0) h) 0 0) : AW G mX7_addConstructor (d + 48) 1 3 Q 0 [(0, .ref (A.1 0)), (1, .int t), (2, .int a), (3, .int b), (4, .int c), (5, .int k)] [] (rw_O A R h) 0 0 := by
  refine ax_aload_n dX7_addConstructor_0 rfl ?_
  refine ax_iconst (v := 0) dX7_addConstructor_1 (by decide) ?_
  refine ax_put dX7_addConstructor_2 fpX7_52 (rw_g0 hA) rfl rfl (Nat.le_of_ble_eq_true rfl) ?_
  refine ax_eqh (rw_ps0 hA) ?_
  refine ax_aload_n dX7_addConstructor_5 rfl ?_
  refine ax_iload_n dX7_addConstructor_6 rfl ?_
  refine ax_callV (b := (A.1 0)) (av := [.int t]) (rest := []) (mc' := 0) (ms' := 0) dX7_addConstructor_7 rfl lkX7_76 (rw_g0 hA) rfl (Nat.le_of_ble_eq_true rfl) (Nat.le_of_ble_eq_true rfl) (by omega) (by omega) (r_isType hA _ (rw_setS R 0 0) h t (σ := σ) hR.2.1.2.2.1 hR.1.2.2.1) (fun E9 h9 q9 => by cases q9.1) (fun v9 h9 q9 => ?_)
  obtain ⟨e9, rfl⟩ := q9
  cases e9
  show AW G mX7_addConstructor (d + 48) 1 3 _ 10 [(0, .ref (A.1 0)), (1, .int t), (2, .int a), (3, .int b), (4, .int c), (5, .int k)] [.int (if po_isT σ t then 1 else 0)] (rw_O A (rw_setS R 0 0) h) 0 0
  refine ax_if_ne (tgt := 19) dX7_addConstructor_10 (by decide) (fun _ => ?_) (fun z => absurd z (by rw [if_pos hT]; decide))
  exact kk
set_option maxRecDepth 100000 in
set_option maxHeartbeats 4000000 in
theorem ac_f1 (hA : rw_nd A) (d : Nat) (R : rw_S) (h : ax_H) {σ : sp_St} (hR : RI A σ R h) (t a b c k : Int32) (hT : ¬ po_isT σ t = true) : AW G mX7_addConstructor (d + 48) 1 3 (rb_Q A h ((1, 0), σ)) 0 [(0, .ref (A.1 0)), (1, .int t), (2, .int a), (3, .int b), (4, .int c), (5, .int k)] [] (rw_O A R h) 0 0 := by
  refine ax_aload_n dX7_addConstructor_0 rfl ?_
  refine ax_iconst (v := 0) dX7_addConstructor_1 (by decide) ?_
  refine ax_put dX7_addConstructor_2 fpX7_52 (rw_g0 hA) rfl rfl (Nat.le_of_ble_eq_true rfl) ?_
  refine ax_eqh (rw_ps0 hA) ?_
  refine ax_aload_n dX7_addConstructor_5 rfl ?_
  refine ax_iload_n dX7_addConstructor_6 rfl ?_
  refine ax_callV (b := (A.1 0)) (av := [.int t]) (rest := []) (mc' := 0) (ms' := 0) dX7_addConstructor_7 rfl lkX7_76 (rw_g0 hA) rfl (Nat.le_of_ble_eq_true rfl) (Nat.le_of_ble_eq_true rfl) (by omega) (by omega) (r_isType hA _ (rw_setS R 0 0) h t (σ := σ) hR.2.1.2.2.1 hR.1.2.2.1) (fun E9 h9 q9 => by cases q9.1) (fun v9 h9 q9 => ?_)
  obtain ⟨e9, rfl⟩ := q9
  cases e9
  show AW G mX7_addConstructor (d + 48) 1 3 _ 10 [(0, .ref (A.1 0)), (1, .int t), (2, .int a), (3, .int b), (4, .int c), (5, .int k)] [.int (if po_isT σ t then 1 else 0)] (rw_O A (rw_setS R 0 0) h) 0 0
  refine ax_if_ne (tgt := 19) dX7_addConstructor_10 (by decide) (fun z => absurd (if_neg hT) z) (fun _ => ?_)
  refine ax_aload_n dX7_addConstructor_13 rfl ?_
  refine ax_iconst (v := 1) dX7_addConstructor_14 (by decide) ?_
  refine ax_callV (b := (A.1 0)) (av := [.int 1]) (rest := []) (mc' := 0) (ms' := 0) dX7_addConstructor_15 rfl lkX7_72 (rw_g0 hA) rfl (Nat.le_of_ble_eq_true rfl) (Nat.le_of_ble_eq_true rfl) (by omega) (by omega) (r_fail hA _ (rw_setS R 0 0) h 1) (fun E9 h9 q9 => by cases q9.1) (fun v9 h9 q9 => ?_)
  obtain ⟨e9, rfl⟩ := q9
  cases e9
  show AW G mX7_addConstructor (d + 48) 1 3 _ 18 [(0, .ref (A.1 0)), (1, .int t), (2, .int a), (3, .int b), (4, .int c), (5, .int k)] [.int 0] (rw_O A (rw_setS (rw_setS R 0 0) 0 1) h) 0 0
  exact ax_iret (st := []) dX7_addConstructor_18 rfl rfl ⟨_, h, _, rfl, rfl, hx_rfl h, RI_s0 1 (RI_s0 0 hR), rfl, fun z => Nat.noConfusion z⟩
set_option maxRecDepth 100000 in
set_option maxHeartbeats 4000000 in
theorem rb_addCon (hA : rw_nd A) (d : Nat) (R : rw_S) (h : ax_H) {σ : sp_St} (hR : RI A σ R h) (t a b c k : Int32) : AW G mX7_addConstructor (d + 48) 1 3 (rb_Q A h (po_addCon σ t a b c k)) 0 [(0, .ref (A.1 0)), (1, .int t), (2, .int a), (3, .int b), (4, .int c), (5, .int k)] [] (rw_O A R h) 0 0 := by
  by_cases hT : po_isT σ t = true
  · have hTf : ¬ po_isT σ t = false := by rw [hT]; decide
    refine ac_a0 hA d R h hR t a b c k hT ?_
    refine ac_new hA d _ h (fun x f h' hl hx e0 e1 e2 => ?_)
    subst e0; subst e1; subst e2
    have hR0 : RI A σ (rw_setS R 0 0) h' := RI_le hl (RI_s0 0 hR)
    have hw := hR.1
    have h3 : (rw_setS R 0 0).1 3 = nI σ.1.2.2.1 := hR0.2.1.2.2.1
    have f2 : ∀ (P : Prop), po_pars σ (f 0) (f 1) (f 2) = false ∨ k < 0 ∨ 5 < k → rb_Q A h (po_addCon σ t (f 0) (f 1) (f 2) k) (.inl (some (.int 0))) (rw_O A (rw_setS (rw_setS R 0 0) 0 2) h') := by
      intro _ hb
      have hpo : po_addCon σ t (f 0) (f 1) (f 2) k = ((2, 0), σ) := (if_neg hTf).trans (if_pos hb)
      rw [hpo]
      exact ⟨_, h', _, rfl, rfl, hl, RI_s0 2 hR0, rfl, fun z => Nat.noConfusion z⟩
    by_cases hk : (0 : Int32) ≤ k ∧ k ≤ 5
    · have hend : (ac_F σ true f 3 && !decide (ac_N σ f 3 = 3)) = (true && po_pars σ (f 0) (f 1) (f 2)) := ac_end σ true (f 0) (f 1) (f 2)
      refine ac_37y hA d _ h' hk (ac_loop (N := 0) hA d _ h' h3 hw.2.2.1 (rw_rd hx) true ?_)
      have hNl := ac_N_le σ f 3
      cases hP : po_pars σ (f 0) (f 1) (f 2) with
      | true =>
        rw [hP] at hend
        simp only [Bool.and_eq_true, Bool.true_and, Bool.not_eq_true', decide_eq_false_iff_not] at hend
        have hb2 : ¬ (po_pars σ (f 0) (f 1) (f 2) = false ∨ k < 0 ∨ 5 < k) := by
          rintro (z | z)
          · rw [hP] at z; cases z
          · exact in_05.mp hk z
        refine ac_go hA d _ h' (by rw [hend.1]; decide) (il_ne _ 3 hend.2) ?_
        by_cases h6 : σ.1.2.2.2.length = 6
        · refine ac_f3 hA d _ h' (hR0.2.1.2.2.2.1.trans (by rw [h6])) ?_
          have hpo : po_addCon σ t (f 0) (f 1) (f 2) k = ((3, 0), σ) := (if_neg hTf).trans ((if_neg hb2).trans (if_pos h6))
          rw [hpo]
          exact ⟨_, h', _, rfl, rfl, hl, RI_s0 3 hR0, rfl, fun z => Nat.noConfusion z⟩
        · have hpo : po_addCon σ t (f 0) (f 1) (f 2) k = ((0, nI σ.1.2.2.2.length), ((σ.1.1, σ.1.2.1, σ.1.2.2.1, σ.1.2.2.2 ++ [(t.toNatClampNeg, po_pn (f 0), po_pn (f 1), po_pn (f 2), k.toNatClampNeg)]), σ.2.1, none)) := (if_neg hTf).trans ((if_neg hb2).trans (if_neg h6))
          rw [hpo]
          have h6' : σ.1.2.2.2.length < 6 := by have := hw.2.2.2.1; omega
          refine ac_put hA d _ h' (n := σ.1.2.2.2.length) (fun R' => rw_rd hx) hR0.2.1.2.2.2.1 h6' (fun R' a1 a2 a3 a4 a8 a12 a10 a0 b4 b1 b2 b3 => ?_)
          obtain ⟨tn, rfl, ht1, ht4⟩ := po_isT_nat hw hT
          obtain ⟨kn, rfl, hk5⟩ := in_5n hk
          rw [nI_clamp (by omega)] at b1 b3
          rw [nI_clamp (by omega), nI_clamp (by omega), nI_clamp (by omega)] at b2
          have ec1 : (nI tn).toNatClampNeg = tn := nI_clamp (by omega)
          have ec2 : (nI kn).toNatClampNeg = kn := nI_clamp (by omega)
          rw [ec1, ec2]
          obtain ⟨w1, w2, w3, w4⟩ := ac_wc hw ht1 hP hk5
          refine ⟨R', h', _, rfl, rfl, hl, ?_, a0, fun _ => rfl⟩
          refine RI_chg hR0 (ac_wg hw h6' w1) (ac_gr hR0.2.1 a1 a2 a3 a4 b1 ?_ b3) b4 a8 a12 a10 rfl
          show _ = upd (upd (upd _ _ (sp_pI (po_pn (f 0)))) _ (sp_pI (po_pn (f 1)))) _ (sp_pI (po_pn (f 2)))
          rw [w2, w3, w4]; exact b2
      | false =>
        rw [hP, Bool.and_false] at hend
        refine ac_f2 hA d _ h' ?_ (f2 True (Or.inl hP))
        rcases Bool.and_eq_false_iff.mp hend with z | z
        · exact Or.inl (by rw [z]; rfl)
        · refine Or.inr ?_
          have : ac_N σ f 3 = 3 := by simpa using z
          rw [this]; rfl
    · refine ac_37n hA d _ h' hk (ac_loop (N := 0) hA d _ h' h3 hw.2.2.1 (rw_rd hx) false ?_)
      refine ac_f2 hA d _ h' ?_ (f2 True (Or.inr (Decidable.not_not.mp (fun z => hk (in_05.mpr z)))))
      refine Or.inl ?_
      have : ac_F σ false f 3 = false := by simp [ac_F]
      rw [this]; rfl
  · have hTf : po_isT σ t = false := by cases hz : po_isT σ t with
      | true => exact absurd hz hT
      | false => rfl
    rw [show po_addCon σ t a b c k = ((1, 0), σ) from if_pos hTf]
    exact ac_f1 hA d R h hR t a b c k hT
end RP17
