/-! ===== the reference: draw ===== -/
theorem lN_div {a d : Nat} (ha : a < 2 ^ 31) (h0 : 0 < d) (hd : d < 2 ^ 31) : lN a / lN d = lN (a / d) := by
  apply Int64.toInt_inj.mp
  rw [Int64.toInt_div_of_ne_right _ _ (fun z => by have := congrArg Int64.toInt z; rw [lN_toInt hd, show (-1 : Int64).toInt = -1 by decide] at this; omega), lN_toInt ha, lN_toInt hd, lN_toInt (Nat.lt_of_le_of_lt (Nat.div_le_self a d) ha)]
  exact (Int.ofNat_tdiv a d).symm
theorem dr_w (X : Int64) : (X.toUInt64 >>> ((33 : Int32).toInt64.toUInt64 &&& Int64.toUInt64 63)).toInt64 = lN (X.toUInt64.toNat / 2 ^ 33) := by
  have e1 : ((33 : Int32).toInt64.toUInt64 &&& Int64.toUInt64 63) = 33 := by decide
  rw [e1]
  have e2 : X.toUInt64 >>> 33 = UInt64.ofNat (X.toUInt64.toNat / 2 ^ 33) := by
    apply UInt64.toNat_inj.mp
    rw [UInt64.toNat_shiftRight, show (33 : UInt64).toNat % 64 = 33 by decide, Nat.shiftRight_eq_div_pow, UInt64.toNat_ofNat']
    have := UInt64.toNat_lt X.toUInt64
    omega
  rw [e2, UInt64.toInt64_ofNat']
  rfl
theorem dr_r (X : Int64) {m : Nat} (hm : 0 < m) (hm3 : m ≤ 300) : ((X.toUInt64 >>> ((33 : Int32).toInt64.toUInt64 &&& Int64.toUInt64 63)).toInt64 - (X.toUInt64 >>> ((33 : Int32).toInt64.toUInt64 &&& Int64.toUInt64 63)).toInt64 / (nI m).toInt64 * (nI m).toInt64).toInt32 = nI (X.toUInt64.toNat / 2 ^ 33 % m) := by
  have hk : X.toUInt64.toNat / 2 ^ 33 < 2 ^ 31 := by
    have := UInt64.toNat_lt X.toUInt64
    omega
  rw [dr_w, nI_l (by omega), lN_div hk hm (by omega), lN_mul, lN_sub (Nat.div_mul_le_self _ _), lN_i]
  congr 1
  have := Nat.div_add_mod' (X.toUInt64.toNat / 2 ^ 33) m
  omega
section RP10
variable {G : ax_G} {A : rw_Ad}

set_option maxRecDepth 100000 in
set_option maxHeartbeats 4000000 in
theorem rb_draw (hA : rw_nd A) (d : Nat) (R : rw_S) (h : ax_H) {σ : sp_St} (hR : RI A σ R h) (t : Int32) (s : Int32) (zs : Int64) : AW G mX7_draw (d + 49) (rw_bC (po_wm σ t s) R σ.1) (rw_bS (po_wm σ t s) R σ.1) (rb_QW A h (po_draw σ t s zs) (po_wm σ t s)) 0 [(0, .ref (A.1 0)), (1, .int t), (2, .int s), (3, .long zs)] [] (rw_O A R h) 0 0 := by
  by_cases hk : po_asks σ t s = 0
  · have hk1 : po_isT σ t = true := by
      cases hb : po_isT σ t with
      | true => rfl
      | false => rw [show po_asks σ t s = 1 from if_pos hb] at hk; cases hk
    have hk2 : ¬ (s < 1 ∨ 8 < s) := fun hb => by
      rw [show po_asks σ t s = 2 from (if_neg (by rw [hk1]; decide)).trans (if_pos hb)] at hk; cases hk
    obtain ⟨tn, rfl, -, ht4⟩ := po_isT_nat hR.1 hk1
    obtain ⟨z, rfl, hz1, hz8⟩ := i_rng hk2
    obtain ⟨z, rfl⟩ : ∃ k, z = k + 1 := ⟨z - 1, by omega⟩
    have u1 : po_up σ (nI tn) (nI (z + 1)).toNatClampNeg = sp_upto (po_T σ) tn (z + 1) := by unfold po_up; rw [nI_clamp (by omega), nI_clamp (by omega)]
    have u2 : po_up σ (nI tn) ((nI (z + 1)).toNatClampNeg - 1) = sp_upto (po_T σ) tn (z) := by unfold po_up; rw [nI_clamp (by omega), nI_clamp (by omega)]; rfl
    have hm := sp_upto_mono (po_T σ) tn (a := z) (b := z + 1) (by omega)
    have hul := sp_upto_le (po_T σ) tn (z + 1)
    have hc3 : sp_cnt (po_T σ) tn ≤ 300 := Nat.le_trans (sp_cnt_le _ _) (tb_ok hR.1).1.1
    by_cases h0 : sp_upto (po_T σ) tn (z + 1) - sp_upto (po_T σ) tn (z) = 0
    · have e0 : po_draw σ (nI tn) (nI (z + 1)) zs = ((4, 0), σ) := by
        unfold po_draw
        rw [if_neg (fun w => w hk), u1, u2, if_pos h0]
      rw [e0]
      refine ax_aload_n dX7_draw_0 rfl ?_
      refine ax_iload_n dX7_draw_1 rfl ?_
      refine ax_iload_n dX7_draw_2 rfl ?_
      refine ax_callV (b := (A.1 0)) (av := [.int (nI tn), .int (nI (z + 1))]) (rest := []) (mc' := (rw_bC (po_wm σ (nI tn) (nI (z + 1))) R σ.1)) (ms' := (rw_bS (po_wm σ (nI tn) (nI (z + 1))) R σ.1)) dX7_draw_3 rfl lkX7_140 (rw_g0 hA) rfl (Nat.le_of_ble_eq_true rfl) (Nat.le_of_ble_eq_true rfl) (by omega) (by omega) (rb_asks hA _ R h hR (nI tn) (nI (z + 1))) (fun E9 h9 q9 => by obtain ⟨R1, h1, -, -, -, -, e9, -⟩ := q9; cases e9) (fun v9 h9 q9 => ?_)
      obtain ⟨R1, h1, rfl, a1, a2, a3, e9, a4, a5⟩ := q9
      rw [if_pos hk] at e9
      cases e9
      obtain ⟨b1, b2⟩ := a4 hk
      show AW G mX7_draw (d + 49) (rw_bC (po_wm σ (nI tn) (nI (z + 1))) R σ.1) (rw_bS (po_wm σ (nI tn) (nI (z + 1))) R σ.1) _ 6 [(0, .ref (A.1 0)), (1, .int (nI tn)), (2, .int (nI (z + 1))), (3, .long zs)] [.int 1] (rw_O A R1 h1) (0 + (rw_bC (po_wm σ (nI tn) (nI (z + 1))) R σ.1)) (0 + (rw_bS (po_wm σ (nI tn) (nI (z + 1))) R σ.1))
      refine ax_if_ne (tgt := 11) dX7_draw_6 (by decide) (fun _ => ?_) (fun z => absurd z (by decide))
      refine ax_aload_n dX7_draw_11 rfl ?_
      refine ax_iload_n dX7_draw_12 rfl ?_
      refine ax_iload_n dX7_draw_13 rfl ?_
      refine ax_iconst (v := 1) dX7_draw_14 (by decide) ?_
      refine ax_isub dX7_draw_15 ?_
      refine ax_top (y := (nI z)) (nI_pred z) ?_
      refine ax_callV (b := (A.1 0)) (av := [.int (nI tn), .int (nI z)]) (rest := []) (mc' := 0) (ms' := 0) dX7_draw_16 rfl lkX7_143 (rw_g0 hA) rfl (Nat.le_of_ble_eq_true rfl) (Nat.le_of_ble_eq_true rfl) (by omega) (by omega) (r_upTo hA _ R1 h1 b2 (tb_ok hR.1).1 (t := tn) (s := z) ht4 (by omega)) (fun E9 h9 q9 => by cases q9.1) (fun v9 h9 q9 => ?_)
      obtain ⟨e9, rfl⟩ := q9
      cases e9
      show AW G mX7_draw (d + 49) (rw_bC (po_wm σ (nI tn) (nI (z + 1))) R σ.1) (rw_bS (po_wm σ (nI tn) (nI (z + 1))) R σ.1) _ 19 [(0, .ref (A.1 0)), (1, .int (nI tn)), (2, .int (nI (z + 1))), (3, .long zs)] [.int (nI (sp_upto (po_T σ) tn (z)))] (rw_O A R1 h1) (0 + (rw_bC (po_wm σ (nI tn) (nI (z + 1))) R σ.1)) (0 + (rw_bS (po_wm σ (nI tn) (nI (z + 1))) R σ.1))
      refine ax_istore dX7_draw_19 (by decide) ?_
      refine ax_sub (lv' := [(0, .ref (A.1 0)), (1, .int (nI tn)), (2, .int (nI (z + 1))), (3, .long zs), (5, .int (nI (sp_upto (po_T σ) tn (z))))]) (fun _ z => z) ?_
      refine ax_aload_n dX7_draw_21 rfl ?_
      refine ax_iload_n dX7_draw_22 rfl ?_
      refine ax_iload_n dX7_draw_23 rfl ?_
      refine ax_callV (b := (A.1 0)) (av := [.int (nI tn), .int (nI (z + 1))]) (rest := []) (mc' := 0) (ms' := 0) dX7_draw_24 rfl lkX7_143 (rw_g0 hA) rfl (Nat.le_of_ble_eq_true rfl) (Nat.le_of_ble_eq_true rfl) (by omega) (by omega) (r_upTo hA _ R1 h1 b2 (tb_ok hR.1).1 (t := tn) (s := z + 1) ht4 (by omega)) (fun E9 h9 q9 => by cases q9.1) (fun v9 h9 q9 => ?_)
      obtain ⟨e9, rfl⟩ := q9
      cases e9
      show AW G mX7_draw (d + 49) (rw_bC (po_wm σ (nI tn) (nI (z + 1))) R σ.1) (rw_bS (po_wm σ (nI tn) (nI (z + 1))) R σ.1) _ 27 [(0, .ref (A.1 0)), (1, .int (nI tn)), (2, .int (nI (z + 1))), (3, .long zs), (5, .int (nI (sp_upto (po_T σ) tn (z))))] [.int (nI (sp_upto (po_T σ) tn (z + 1)))] (rw_O A R1 h1) (0 + (rw_bC (po_wm σ (nI tn) (nI (z + 1))) R σ.1)) (0 + (rw_bS (po_wm σ (nI tn) (nI (z + 1))) R σ.1))
      refine ax_iload dX7_draw_27 rfl ?_
      refine ax_isub dX7_draw_29 ?_
      refine ax_top (y := (nI (sp_upto (po_T σ) tn (z + 1) - sp_upto (po_T σ) tn (z)))) (pk_sub (sp_upto_mono _ _ (by omega))) ?_
      refine ax_istore dX7_draw_30 (by decide) ?_
      refine ax_sub (lv' := [(0, .ref (A.1 0)), (1, .int (nI tn)), (2, .int (nI (z + 1))), (3, .long zs), (5, .int (nI (sp_upto (po_T σ) tn (z)))), (6, .int (nI (sp_upto (po_T σ) tn (z + 1) - sp_upto (po_T σ) tn (z))))]) (fun _ z => z) ?_
      refine ax_iload dX7_draw_32 rfl ?_
      refine ax_if_ne (tgt := 43) dX7_draw_34 (by decide) (fun z => absurd (by rw [h0]; decide) z) (fun _ => ?_)
      refine ax_aload_n dX7_draw_37 rfl ?_
      refine ax_iconst (v := 4) dX7_draw_38 (by decide) ?_
      refine ax_callV (b := (A.1 0)) (av := [.int 4]) (rest := []) (mc' := 0) (ms' := 0) dX7_draw_39 rfl lkX7_72 (rw_g0 hA) rfl (Nat.le_of_ble_eq_true rfl) (Nat.le_of_ble_eq_true rfl) (by omega) (by omega) (r_fail hA _ R1 h1 4) (fun E9 h9 q9 => by cases q9.1) (fun v9 h9 q9 => ?_)
      obtain ⟨e9, rfl⟩ := q9
      cases e9
      show AW G mX7_draw (d + 49) (rw_bC (po_wm σ (nI tn) (nI (z + 1))) R σ.1) (rw_bS (po_wm σ (nI tn) (nI (z + 1))) R σ.1) _ 42 [(0, .ref (A.1 0)), (1, .int (nI tn)), (2, .int (nI (z + 1))), (3, .long zs), (5, .int (nI (sp_upto (po_T σ) tn (z)))), (6, .int (nI (sp_upto (po_T σ) tn (z + 1) - sp_upto (po_T σ) tn (z))))] [.int 0] (rw_O A (rw_setS R1 0 4) h1) (0 + (rw_bC (po_wm σ (nI tn) (nI (z + 1))) R σ.1)) (0 + (rw_bS (po_wm σ (nI tn) (nI (z + 1))) R σ.1))
      exact ax_iret (st := []) dX7_draw_42 rfl rfl ⟨_, h1, _, rfl, rfl, a1, RI_s0 4 a2, rfl, fun w => Nat.noConfusion w, a5⟩
    · have hpos : 0 < sp_upto (po_T σ) tn (z + 1) - sp_upto (po_T σ) tn (z) := by omega
      have hlt := Nat.mod_lt (po_seed zs) hpos
      have hrl : sp_upto (po_T σ) tn (z) + po_seed zs % (sp_upto (po_T σ) tn (z + 1) - sp_upto (po_T σ) tn (z)) < (sp_of (po_T σ) tn).length := by rw [sp_of_len]; omega
      have hat : po_at (po_T σ) tn (sp_upto (po_T σ) tn (z) + po_seed zs % (sp_upto (po_T σ) tn (z + 1) - sp_upto (po_T σ) tn (z))) = (sp_of (po_T σ) tn)[sp_upto (po_T σ) tn (z) + po_seed zs % (sp_upto (po_T σ) tn (z + 1) - sp_upto (po_T σ) tn (z))] := by
        unfold po_at; rw [List.getElem?_eq_getElem hrl]; rfl
      obtain ⟨g1, g2, g3⟩ := sp_rk_of (List.getElem?_eq_getElem hrl)
      have e0 : po_draw σ (nI tn) (nI (z + 1)) zs = ((0, (nI (sp_upto (po_T σ) tn (z) + po_seed zs % (sp_upto (po_T σ) tn (z + 1) - sp_upto (po_T σ) tn (z))))), (σ.1, σ.2.1, some ((sp_of (po_T σ) tn)[sp_upto (po_T σ) tn (z) + po_seed zs % (sp_upto (po_T σ) tn (z + 1) - sp_upto (po_T σ) tn (z))]))) := by
        unfold po_draw
        rw [if_neg (fun w => w hk), u1, u2, if_neg h0, nI_clamp (by omega), hat]
      rw [e0]
      refine ax_aload_n dX7_draw_0 rfl ?_
      refine ax_iload_n dX7_draw_1 rfl ?_
      refine ax_iload_n dX7_draw_2 rfl ?_
      refine ax_callV (b := (A.1 0)) (av := [.int (nI tn), .int (nI (z + 1))]) (rest := []) (mc' := (rw_bC (po_wm σ (nI tn) (nI (z + 1))) R σ.1)) (ms' := (rw_bS (po_wm σ (nI tn) (nI (z + 1))) R σ.1)) dX7_draw_3 rfl lkX7_140 (rw_g0 hA) rfl (Nat.le_of_ble_eq_true rfl) (Nat.le_of_ble_eq_true rfl) (by omega) (by omega) (rb_asks hA _ R h hR (nI tn) (nI (z + 1))) (fun E9 h9 q9 => by obtain ⟨R1, h1, -, -, -, -, e9, -⟩ := q9; cases e9) (fun v9 h9 q9 => ?_)
      obtain ⟨R1, h1, rfl, a1, a2, a3, e9, a4, a5⟩ := q9
      rw [if_pos hk] at e9
      cases e9
      obtain ⟨b1, b2⟩ := a4 hk
      show AW G mX7_draw (d + 49) (rw_bC (po_wm σ (nI tn) (nI (z + 1))) R σ.1) (rw_bS (po_wm σ (nI tn) (nI (z + 1))) R σ.1) _ 6 [(0, .ref (A.1 0)), (1, .int (nI tn)), (2, .int (nI (z + 1))), (3, .long zs)] [.int 1] (rw_O A R1 h1) (0 + (rw_bC (po_wm σ (nI tn) (nI (z + 1))) R σ.1)) (0 + (rw_bS (po_wm σ (nI tn) (nI (z + 1))) R σ.1))
      refine ax_if_ne (tgt := 11) dX7_draw_6 (by decide) (fun _ => ?_) (fun z => absurd z (by decide))
      refine ax_aload_n dX7_draw_11 rfl ?_
      refine ax_iload_n dX7_draw_12 rfl ?_
      refine ax_iload_n dX7_draw_13 rfl ?_
      refine ax_iconst (v := 1) dX7_draw_14 (by decide) ?_
      refine ax_isub dX7_draw_15 ?_
      refine ax_top (y := (nI z)) (nI_pred z) ?_
      refine ax_callV (b := (A.1 0)) (av := [.int (nI tn), .int (nI z)]) (rest := []) (mc' := 0) (ms' := 0) dX7_draw_16 rfl lkX7_143 (rw_g0 hA) rfl (Nat.le_of_ble_eq_true rfl) (Nat.le_of_ble_eq_true rfl) (by omega) (by omega) (r_upTo hA _ R1 h1 b2 (tb_ok hR.1).1 (t := tn) (s := z) ht4 (by omega)) (fun E9 h9 q9 => by cases q9.1) (fun v9 h9 q9 => ?_)
      obtain ⟨e9, rfl⟩ := q9
      cases e9
      show AW G mX7_draw (d + 49) (rw_bC (po_wm σ (nI tn) (nI (z + 1))) R σ.1) (rw_bS (po_wm σ (nI tn) (nI (z + 1))) R σ.1) _ 19 [(0, .ref (A.1 0)), (1, .int (nI tn)), (2, .int (nI (z + 1))), (3, .long zs)] [.int (nI (sp_upto (po_T σ) tn (z)))] (rw_O A R1 h1) (0 + (rw_bC (po_wm σ (nI tn) (nI (z + 1))) R σ.1)) (0 + (rw_bS (po_wm σ (nI tn) (nI (z + 1))) R σ.1))
      refine ax_istore dX7_draw_19 (by decide) ?_
      refine ax_sub (lv' := [(0, .ref (A.1 0)), (1, .int (nI tn)), (2, .int (nI (z + 1))), (3, .long zs), (5, .int (nI (sp_upto (po_T σ) tn (z))))]) (fun _ z => z) ?_
      refine ax_aload_n dX7_draw_21 rfl ?_
      refine ax_iload_n dX7_draw_22 rfl ?_
      refine ax_iload_n dX7_draw_23 rfl ?_
      refine ax_callV (b := (A.1 0)) (av := [.int (nI tn), .int (nI (z + 1))]) (rest := []) (mc' := 0) (ms' := 0) dX7_draw_24 rfl lkX7_143 (rw_g0 hA) rfl (Nat.le_of_ble_eq_true rfl) (Nat.le_of_ble_eq_true rfl) (by omega) (by omega) (r_upTo hA _ R1 h1 b2 (tb_ok hR.1).1 (t := tn) (s := z + 1) ht4 (by omega)) (fun E9 h9 q9 => by cases q9.1) (fun v9 h9 q9 => ?_)
      obtain ⟨e9, rfl⟩ := q9
      cases e9
      show AW G mX7_draw (d + 49) (rw_bC (po_wm σ (nI tn) (nI (z + 1))) R σ.1) (rw_bS (po_wm σ (nI tn) (nI (z + 1))) R σ.1) _ 27 [(0, .ref (A.1 0)), (1, .int (nI tn)), (2, .int (nI (z + 1))), (3, .long zs), (5, .int (nI (sp_upto (po_T σ) tn (z))))] [.int (nI (sp_upto (po_T σ) tn (z + 1)))] (rw_O A R1 h1) (0 + (rw_bC (po_wm σ (nI tn) (nI (z + 1))) R σ.1)) (0 + (rw_bS (po_wm σ (nI tn) (nI (z + 1))) R σ.1))
      refine ax_iload dX7_draw_27 rfl ?_
      refine ax_isub dX7_draw_29 ?_
      refine ax_top (y := (nI (sp_upto (po_T σ) tn (z + 1) - sp_upto (po_T σ) tn (z)))) (pk_sub (sp_upto_mono _ _ (by omega))) ?_
      refine ax_istore dX7_draw_30 (by decide) ?_
      refine ax_sub (lv' := [(0, .ref (A.1 0)), (1, .int (nI tn)), (2, .int (nI (z + 1))), (3, .long zs), (5, .int (nI (sp_upto (po_T σ) tn (z)))), (6, .int (nI (sp_upto (po_T σ) tn (z + 1) - sp_upto (po_T σ) tn (z))))]) (fun _ z => z) ?_
      refine ax_iload dX7_draw_32 rfl ?_
      refine ax_if_ne (tgt := 43) dX7_draw_34 (by decide) (fun _ => ?_) (fun z => absurd z (nI_ne0 hpos (by omega)))
      refine ax_lload_n dX7_draw_43 rfl ?_
      refine ax_ldc2 dX7_draw_44 lcX7_156 ?_
      refine ax_lmul dX7_draw_47 ?_
      refine ax_ldc2 dX7_draw_48 lcX7_158 ?_
      refine ax_ladd dX7_draw_51 ?_
      refine ax_lstore dX7_draw_52 (by decide) ?_
      refine ax_sub (lv' := [(0, .ref (A.1 0)), (1, .int (nI tn)), (2, .int (nI (z + 1))), (3, .long zs), (5, .int (nI (sp_upto (po_T σ) tn (z)))), (6, .int (nI (sp_upto (po_T σ) tn (z + 1) - sp_upto (po_T σ) tn (z)))), (7, .long ((zs * (6364136223846793005 : Int64)) + (1442695040888963407 : Int64)))]) (fun _ z => z) ?_
      refine ax_aload_n dX7_draw_54 rfl ?_
      refine ax_iload_n dX7_draw_55 rfl ?_
      refine ax_iload dX7_draw_56 rfl ?_
      refine ax_lload dX7_draw_58 rfl ?_
      refine ax_bipush (v := 33) dX7_draw_60 (by decide) ?_
      refine ax_lushr dX7_draw_62 ?_
      refine ax_iload dX7_draw_63 rfl ?_
      refine ax_i2l dX7_draw_65 ?_
      refine ax_lrem dX7_draw_66 (fun zz => by rw [nI_l (by omega), show (0 : Int64) = lN 0 by decide, lN_eq (by omega) (by omega)] at zz; omega) ?_
      refine ax_l2i dX7_draw_67 ?_
      refine ax_top (dr_r _ hpos (by omega)) ?_
      refine ax_iadd dX7_draw_68 ?_
      refine ax_top (y := (nI (sp_upto (po_T σ) tn (z) + po_seed zs % (sp_upto (po_T σ) tn (z + 1) - sp_upto (po_T σ) tn (z))))) (nI_add _ _) ?_
      refine ax_callV (b := (A.1 0)) (av := [.int (nI tn), .int (nI (sp_upto (po_T σ) tn (z) + po_seed zs % (sp_upto (po_T σ) tn (z + 1) - sp_upto (po_T σ) tn (z))))]) (rest := []) (mc' := 0) (ms' := 0) dX7_draw_69 rfl lkX7_152 (rw_g0 hA) rfl (Nat.le_of_ble_eq_true rfl) (Nat.le_of_ble_eq_true rfl) (by omega) (by omega) (r_choose hA _ R1 h1 (nI tn) (nI (sp_upto (po_T σ) tn (z) + po_seed zs % (sp_upto (po_T σ) tn (z + 1) - sp_upto (po_T σ) tn (z))))) (fun E9 h9 q9 => by cases q9.1) (fun v9 h9 q9 => ?_)
      obtain ⟨e9, rfl⟩ := q9
      cases e9
      show AW G mX7_draw (d + 49) (rw_bC (po_wm σ (nI tn) (nI (z + 1))) R σ.1) (rw_bS (po_wm σ (nI tn) (nI (z + 1))) R σ.1) _ 72 [(0, .ref (A.1 0)), (1, .int (nI tn)), (2, .int (nI (z + 1))), (3, .long zs), (5, .int (nI (sp_upto (po_T σ) tn (z)))), (6, .int (nI (sp_upto (po_T σ) tn (z + 1) - sp_upto (po_T σ) tn (z)))), (7, .long ((zs * (6364136223846793005 : Int64)) + (1442695040888963407 : Int64)))] [] (rw_O A (rw_setS (rw_setS R1 10 (nI tn)) 11 (nI (sp_upto (po_T σ) tn (z) + po_seed zs % (sp_upto (po_T σ) tn (z + 1) - sp_upto (po_T σ) tn (z))))) h1) (0 + (rw_bC (po_wm σ (nI tn) (nI (z + 1))) R σ.1)) (0 + (rw_bS (po_wm σ (nI tn) (nI (z + 1))) R σ.1))
      refine ax_aload_n dX7_draw_72 rfl ?_
      refine ax_get (v := .int ((rw_setS (rw_setS R1 10 (nI tn)) 11 (nI (sp_upto (po_T σ) tn (z) + po_seed zs % (sp_upto (po_T σ) tn (z + 1) - sp_upto (po_T σ) tn (z))))).1 11)) dX7_draw_73 fkX7_149 (rw_g0 hA) rfl ?_
      refine ax_iret (st := []) dX7_draw_76 rfl rfl ⟨_, h1, _, rfl, rfl, a1, ?_, a3.trans (by rw [hk]), fun _ => rfl, a5⟩
      have := RI_sel a2 b1 g1
      rw [g2, g3] at this
      exact this
  · have e0 : po_draw σ t s zs = ((po_asks σ t s, 0), σ) := if_pos hk
    rw [e0]
    refine ax_aload_n dX7_draw_0 rfl ?_
    refine ax_iload_n dX7_draw_1 rfl ?_
    refine ax_iload_n dX7_draw_2 rfl ?_
    refine ax_callV (b := (A.1 0)) (av := [.int t, .int s]) (rest := []) (mc' := (rw_bC (po_wm σ t s) R σ.1)) (ms' := (rw_bS (po_wm σ t s) R σ.1)) dX7_draw_3 rfl lkX7_140 (rw_g0 hA) rfl (Nat.le_of_ble_eq_true rfl) (Nat.le_of_ble_eq_true rfl) (by omega) (by omega) (rb_asks hA _ R h hR t s) (fun E9 h9 q9 => by obtain ⟨R1, h1, -, -, -, -, e9, -⟩ := q9; cases e9) (fun v9 h9 q9 => ?_)
    obtain ⟨R1, h1, rfl, a1, a2, a3, e9, a4, a5⟩ := q9
    rw [if_neg hk] at e9
    cases e9
    show AW G mX7_draw (d + 49) (rw_bC (po_wm σ t s) R σ.1) (rw_bS (po_wm σ t s) R σ.1) _ 6 [(0, .ref (A.1 0)), (1, .int t), (2, .int s), (3, .long zs)] [.int 0] (rw_O A R1 h1) (0 + (rw_bC (po_wm σ t s) R σ.1)) (0 + (rw_bS (po_wm σ t s) R σ.1))
    refine ax_if_ne (tgt := 11) dX7_draw_6 (by decide) (fun z => absurd rfl z) (fun _ => ?_)
    refine ax_iconst (v := 0) dX7_draw_9 (by decide) ?_
    exact ax_iret (st := []) dX7_draw_10 rfl rfl ⟨R1, h1, _, rfl, rfl, a1, a2, a3, fun w => absurd w hk, a5⟩
end RP10
