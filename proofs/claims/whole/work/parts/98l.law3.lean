/-! ===== the law: typeCount, horizon, digest, mean ===== -/
section LAW3
variable {G : ax_G}
set_option maxRecDepth 100000 in
set_option maxHeartbeats 4000000 in
theorem lc_typeCount (d : Nat) {mc ms cn sn i ou od : Nat} {A : Nat → Nat} {ad : cs_K → Nat} {S : cs_S} {R : rw_S} {h : ax_H} {σ : sp_St} (hL : LI A ad S R h σ ou od) (hcn : cn + 1 + 0 ≤ mc) (hsn : sn + 6 + 0 ≤ ms) {Q : ax_P} (kk : ∀ S' R' h', LI A ad S' R' h' σ ou od → AW G mL_law (d + 80) mc ms Q 1391 [(0, .ref G.2.2.2.2.1), (1, .ref (ad (0, 0))), (2, .ref (A 0)), (3, .ref ou), (4, .ref od), (5, .int (nI i))] [] (rw_O (A, ad, S') R' h') (cn + 1 + 0) (sn + 6 + 0)) : AW G mL_law (d + 80) mc ms Q 371 [(0, .ref G.2.2.2.2.1), (1, .ref (ad (0, 0))), (2, .ref (A 0)), (3, .ref ou), (4, .ref od), (5, .int (nI i))] [] (rw_O (A, ad, S) R h) cn sn := by
  obtain ⟨l1, l2, l3, l4, l5, ⟨f, hf⟩, l7, ⟨g, hg⟩, l9⟩ := id hL
  refine ax_aload_n dL_law_371 rfl ?_
  refine ax_eqh (rw_sw l3) ?_
  refine ax_callV (b := ad (0, 0)) (av := []) (rest := []) (mc' := 1) (ms' := 6) dL_law_372 rfl lkL_104 (cs_get l2 (cs_k0 (by decide))) rfl (Nat.le_of_ble_eq_true rfl) (Nat.le_of_ble_eq_true rfl) (by omega) (by omega) (pb_typeCount l2 (d + 63) S (ax_w h (rw_l (A, ad, S) R)) l4) (fun E9 h9 q9 => by cases q9.1) (fun v9 h9 q9 => ?_)
  obtain ⟨e9, S', rfl, hC'⟩ := q9
  cases e9
  refine ax_eqh (show cs_O ad S' (ax_w h (rw_l (A, ad, S) R)) = rw_O (A, ad, S') R h from (rw_sw l3).symm) ?_
  show AW G mL_law (d + 80) mc ms Q 375 [(0, .ref G.2.2.2.2.1), (1, .ref (ad (0, 0))), (2, .ref (A 0)), (3, .ref ou), (4, .ref od), (5, .int (nI i))] [.int (nI σ.1.2.2.1)] (rw_O (A, ad, S') R h) (cn + 1) (sn + 6)
  have hR1 : RI (A, ad, S') σ R h := LI_S l5
  refine ax_aload_n dL_law_375 rfl ?_
  refine ax_callV (b := A 0) (av := []) (rest := [.int (nI σ.1.2.2.1)]) (mc' := 0) (ms' := 0) dL_law_376 rfl lkL_107 (rw_g0 (A := (A, ad, S')) l1) rfl (Nat.le_of_ble_eq_true rfl) (Nat.le_of_ble_eq_true rfl) (by omega) (by omega) (rb_typeCount (A := (A, ad, S')) l1 (d + 31) R h hR1) (fun E9 h9 q9 => by obtain ⟨R', h', e0, a1, a2, e9⟩ := q9; cases e9) (fun v9 h9 q9 => ?_)
  obtain ⟨R', h', e0, a1, a2, e9⟩ := q9
  subst e0
  cases e9
  have hk := kk S' R' h' (LI_nx hL hC' a2 ⟨f, hf⟩ ⟨g, hg⟩ a1)
  show AW G mL_law (d + 80) mc ms Q 379 [(0, .ref G.2.2.2.2.1), (1, .ref (ad (0, 0))), (2, .ref (A 0)), (3, .ref ou), (4, .ref od), (5, .int (nI i))] [.int (nI σ.1.2.2.1), .int (nI σ.1.2.2.1)] (rw_O (A, ad, S') R' h') (cn + 1 + 0) (sn + 6 + 0)
  exact ax_icmp_eq (tgt := 1391) dL_law_379 (by decide) (fun _ => hk) (fun z => absurd rfl z)
set_option maxRecDepth 100000 in
set_option maxHeartbeats 4000000 in
theorem lc_horizon (d : Nat) {mc ms cn sn i ou od : Nat} {A : Nat → Nat} {ad : cs_K → Nat} {S : cs_S} {R : rw_S} {h : ax_H} {σ : sp_St} (hL : LI A ad S R h σ ou od) (hcn : cn + 1 + (rm_C R σ.1) ≤ mc) (hsn : sn + 6 + (rm_S R σ.1) ≤ ms) {Q : ax_P} (kk : ∀ S' R' h', LI A ad S' R' h' σ ou od → R'.1 12 = 1 → AW G mL_law (d + 80) mc ms Q 1391 [(0, .ref G.2.2.2.2.1), (1, .ref (ad (0, 0))), (2, .ref (A 0)), (3, .ref ou), (4, .ref od), (5, .int (nI i))] [] (rw_O (A, ad, S') R' h') (cn + 1 + (rm_C R σ.1)) (sn + 6 + (rm_S R σ.1))) : AW G mL_law (d + 80) mc ms Q 384 [(0, .ref G.2.2.2.2.1), (1, .ref (ad (0, 0))), (2, .ref (A 0)), (3, .ref ou), (4, .ref od), (5, .int (nI i))] [] (rw_O (A, ad, S) R h) cn sn := by
  obtain ⟨l1, l2, l3, l4, l5, ⟨f, hf⟩, l7, ⟨g, hg⟩, l9⟩ := id hL
  refine ax_aload_n dL_law_384 rfl ?_
  refine ax_eqh (rw_sw l3) ?_
  refine ax_callV (b := ad (0, 0)) (av := []) (rest := []) (mc' := 1) (ms' := 6) dL_law_385 rfl lkL_108 (cs_get l2 (cs_k0 (by decide))) rfl (Nat.le_of_ble_eq_true rfl) (Nat.le_of_ble_eq_true rfl) (by omega) (by omega) (pb_horizon l2 (d + 63) S (ax_w h (rw_l (A, ad, S) R)) l4) (fun E9 h9 q9 => by cases q9.1) (fun v9 h9 q9 => ?_)
  obtain ⟨e9, S', rfl, hC'⟩ := q9
  cases e9
  refine ax_eqh (show cs_O ad S' (ax_w h (rw_l (A, ad, S) R)) = rw_O (A, ad, S') R h from (rw_sw l3).symm) ?_
  show AW G mL_law (d + 80) mc ms Q 388 [(0, .ref G.2.2.2.2.1), (1, .ref (ad (0, 0))), (2, .ref (A 0)), (3, .ref ou), (4, .ref od), (5, .int (nI i))] [.int (nI (po_H σ))] (rw_O (A, ad, S') R h) (cn + 1) (sn + 6)
  have hR1 : RI (A, ad, S') σ R h := LI_S l5
  refine ax_aload_n dL_law_388 rfl ?_
  refine ax_callV (b := A 0) (av := []) (rest := [.int (nI (po_H σ))]) (mc' := (rm_C R σ.1)) (ms' := (rm_S R σ.1)) dL_law_389 rfl lkL_111 (rw_g0 (A := (A, ad, S')) l1) rfl (Nat.le_of_ble_eq_true rfl) (Nat.le_of_ble_eq_true rfl) (by omega) (by omega) (rb_horizon (A := (A, ad, S')) l1 (d + 31) R h hR1) (fun E9 h9 q9 => by obtain ⟨R', h', e0, a1, a2, a5, e9⟩ := q9; cases e9) (fun v9 h9 q9 => ?_)
  obtain ⟨R', h', e0, a1, a2, a5, e9⟩ := q9
  subst e0
  cases e9
  have hk := kk S' R' h' (LI_nx hL hC' a2 ⟨f, hf⟩ ⟨g, hg⟩ a1) a5
  show AW G mL_law (d + 80) mc ms Q 392 [(0, .ref G.2.2.2.2.1), (1, .ref (ad (0, 0))), (2, .ref (A 0)), (3, .ref ou), (4, .ref od), (5, .int (nI i))] [.int (nI (po_H σ)), .int (nI (po_H σ))] (rw_O (A, ad, S') R' h') (cn + 1 + (rm_C R σ.1)) (sn + 6 + (rm_S R σ.1))
  exact ax_icmp_eq (tgt := 1391) dL_law_392 (by decide) (fun _ => hk) (fun z => absurd rfl z)
set_option maxRecDepth 100000 in
set_option maxHeartbeats 4000000 in
theorem lc_digest (d : Nat) {mc ms cn sn i ou od : Nat} {A : Nat → Nat} {ad : cs_K → Nat} {S : cs_S} {R : rw_S} {h : ax_H} {σ : sp_St} (hL : LI A ad S R h σ ou od) (hcn : cn + 1 + 0 ≤ mc) (hsn : sn + 6 + 0 ≤ ms) {Q : ax_P} (kk : ∀ S' R' h', LI A ad S' R' h' σ ou od → AW G mL_law (d + 80) mc ms Q 1391 [(0, .ref G.2.2.2.2.1), (1, .ref (ad (0, 0))), (2, .ref (A 0)), (3, .ref ou), (4, .ref od), (5, .int (nI i))] [] (rw_O (A, ad, S') R' h') (cn + 1 + 0) (sn + 6 + 0)) : AW G mL_law (d + 80) mc ms Q 1377 [(0, .ref G.2.2.2.2.1), (1, .ref (ad (0, 0))), (2, .ref (A 0)), (3, .ref ou), (4, .ref od), (5, .int (nI i))] [] (rw_O (A, ad, S) R h) cn sn := by
  obtain ⟨l1, l2, l3, l4, l5, ⟨f, hf⟩, l7, ⟨g, hg⟩, l9⟩ := id hL
  refine ax_aload_n dL_law_1377 rfl ?_
  refine ax_eqh (rw_sw l3) ?_
  refine ax_callV (b := ad (0, 0)) (av := []) (rest := []) (mc' := 1) (ms' := 6) dL_law_1378 rfl lkL_166 (cs_get l2 (cs_k0 (by decide))) rfl (Nat.le_of_ble_eq_true rfl) (Nat.le_of_ble_eq_true rfl) (by omega) (by omega) (pb_digest l2 (d + 63) S (ax_w h (rw_l (A, ad, S) R)) l4) (fun E9 h9 q9 => by cases q9.1) (fun v9 h9 q9 => ?_)
  obtain ⟨e9, S', rfl, hC'⟩ := q9
  cases e9
  refine ax_eqh (show cs_O ad S' (ax_w h (rw_l (A, ad, S) R)) = rw_O (A, ad, S') R h from (rw_sw l3).symm) ?_
  show AW G mL_law (d + 80) mc ms Q 1381 [(0, .ref G.2.2.2.2.1), (1, .ref (ad (0, 0))), (2, .ref (A 0)), (3, .ref ou), (4, .ref od), (5, .int (nI i))] [.long (po_digest σ)] (rw_O (A, ad, S') R h) (cn + 1) (sn + 6)
  have hR1 : RI (A, ad, S') σ R h := LI_S l5
  refine ax_aload_n dL_law_1381 rfl ?_
  refine ax_callV (b := A 0) (av := []) (rest := [.long (po_digest σ)]) (mc' := 0) (ms' := 0) dL_law_1382 rfl lkL_170 (rw_g0 (A := (A, ad, S')) l1) rfl (Nat.le_of_ble_eq_true rfl) (Nat.le_of_ble_eq_true rfl) (by omega) (by omega) (rb_digest (A := (A, ad, S')) l1 (d + 31) R h hR1) (fun E9 h9 q9 => by obtain ⟨R', h', e0, a1, a2, e9⟩ := q9; cases e9) (fun v9 h9 q9 => ?_)
  obtain ⟨R', h', e0, a1, a2, e9⟩ := q9
  subst e0
  cases e9
  have hk := kk S' R' h' (LI_nx hL hC' a2 ⟨f, hf⟩ ⟨g, hg⟩ a1)
  show AW G mL_law (d + 80) mc ms Q 1385 [(0, .ref G.2.2.2.2.1), (1, .ref (ad (0, 0))), (2, .ref (A 0)), (3, .ref ou), (4, .ref od), (5, .int (nI i))] [.long (po_digest σ), .long (po_digest σ)] (rw_O (A, ad, S') R' h') (cn + 1 + 0) (sn + 6 + 0)
  refine ax_lcmp dL_law_1385 ?_
  rw [lg_cmp0]
  exact ax_if_eq (tgt := 1391) dL_law_1386 (by decide) (fun _ => hk) (fun z => absurd rfl z)
set_option maxRecDepth 100000 in
set_option maxHeartbeats 4000000 in
theorem lc_mean (d : Nat) {mc ms cn sn i ou od : Nat} {A : Nat → Nat} {ad : cs_K → Nat} {S : cs_S} {R : rw_S} {h : ax_H} {σ : sp_St} (hL : LI A ad S R h σ ou od) (hcn : cn + 1 + 0 ≤ mc) (hsn : sn + 6 + 0 ≤ ms) {Q : ax_P} (kk : ∀ S' R' h', LI A ad S' R' h' σ ou od → AW G mL_law (d + 80) mc ms Q 1391 [(0, .ref G.2.2.2.2.1), (1, .ref (ad (0, 0))), (2, .ref (A 0)), (3, .ref ou), (4, .ref od), (5, .int (nI i))] [] (rw_O (A, ad, S') R' h') (cn + 1 + 0) (sn + 6 + 0)) : AW G mL_law (d + 80) mc ms Q 1093 [(0, .ref G.2.2.2.2.1), (1, .ref (ad (0, 0))), (2, .ref (A 0)), (3, .ref ou), (4, .ref od), (5, .int (nI i))] [] (rw_O (A, ad, S) R h) cn sn := by
  have hne := LI_ne hL
  have hm1 : ¬ (po_mean σ).1 = 0 → (po_mean σ).1 = 1 := by
    unfold po_mean
    cases σ.2.2 with
    | none => intro _; rfl
    | some v => intro z; exact absurd rfl z
  obtain ⟨l1, l2, l3, l4, l5, ⟨f, hf⟩, l7, ⟨g, hg⟩, l9⟩ := id hL
  refine ax_aload_n dL_law_1093 rfl ?_
  refine ax_aload dL_law_1094 rfl ?_
  refine ax_eqh (rw_sw l3) ?_
  refine ax_callH (av := [.ref (ad (0, 0)), .ref od]) (rest := []) (mc' := 1) (ms' := 6) dL_law_1096 rfl lkL_150 rfl (Nat.le_of_ble_eq_true rfl) (Nat.le_of_ble_eq_true rfl) (by omega) (by omega) (lh_mean l2 (d + 62) S (ax_w h (rw_l (A, ad, S) R)) l4 (rw_rou l3 l9 hg) (Q := fun r h9 => r = .inl (some (.int (nI (po_mean σ).1))) ∧ ∃ S' f', CI σ S' ∧ h9 = va_up (cs_O ad S' (ax_w h (rw_l (A, ad, S) R))) od (some (.inl (2, 1, .inr (.inr (.inr (.inl f')))))) ∧ ((po_mean σ).1 = 0 → f' 0 = (po_mean σ).2)) (fun S' c z => ⟨by rw [z]; rfl, S', _, c, rfl, fun _ => if_pos rfl⟩) (fun S' c z => ⟨by rw [hm1 z]; rfl, S', g, c, (va_up_id (rw_rou l3 l9 hg S')).symm, fun w => absurd w z⟩)) (fun E9 h9 q9 => by cases q9.1) (fun v9 h9 q9 => ?_)
  obtain ⟨e9, S', f', hC', rfl, hV⟩ := q9
  cases e9
  refine ax_eqh (rw_lou l3 l9 S' _) ?_
  obtain ⟨h1, hh1⟩ : ∃ h1, h1 = va_up h od (some (.inl (2, 1, .inr (.inr (.inr (.inl f')))))) := ⟨_, rfl⟩
  rw [← hh1]
  have h1d : h1 od = (some (.inl (2, 1, .inr (.inr (.inr (.inl f')))))) := by rw [hh1, ax_up_s]
  have h1o : h1 ou = some (.inl (1, 1, .inr (.inl f))) := by rw [hh1, ax_up_n hne]; exact hf
  have hR1 : RI (A, ad, S') σ R h1 := by rw [hh1]; exact RI_ou (fun n f0 e => by rw [hg] at e; cases e) (LI_S l5)
  show AW G mL_law (d + 80) mc ms Q 1099 [(0, .ref G.2.2.2.2.1), (1, .ref (ad (0, 0))), (2, .ref (A 0)), (3, .ref ou), (4, .ref od), (5, .int (nI i))] [.int (nI (po_mean σ).1)] (rw_O (A, ad, S') R h1) (cn + 1) (sn + 6)
  refine ax_istore dL_law_1099 (by decide) ?_
  refine ax_sub (lv' := [(0, .ref G.2.2.2.2.1), (1, .ref (ad (0, 0))), (2, .ref (A 0)), (3, .ref ou), (4, .ref od), (5, .int (nI i)), (6, .int (nI (po_mean σ).1))]) (fun _ z => z) ?_
  refine ax_aload_n dL_law_1101 rfl ?_
  refine ax_callV (b := A 0) (av := []) (rest := []) (mc' := 0) (ms' := 0) dL_law_1102 rfl lkL_153 (rw_g0 (A := (A, ad, S')) l1) rfl (Nat.le_of_ble_eq_true rfl) (Nat.le_of_ble_eq_true rfl) (by omega) (by omega) (rb_mean (A := (A, ad, S')) l1 (d + 31) R h1 hR1) (fun E9 h9 q9 => by obtain ⟨_, _, _, e9, _⟩ := q9; cases e9) (fun v9 h9 q9 => ?_)
  obtain ⟨R', h', b, e9, rfl, a1, a2, a3, a4⟩ := q9
  cases e9
  show AW G mL_law (d + 80) mc ms Q 1105 [(0, .ref G.2.2.2.2.1), (1, .ref (ad (0, 0))), (2, .ref (A 0)), (3, .ref ou), (4, .ref od), (5, .int (nI i)), (6, .int (nI (po_mean σ).1))] [.double b] (rw_O (A, ad, S') R' h') (cn + 1 + 0) (sn + 6 + 0)
  refine ax_dstore dL_law_1105 (by decide) ?_
  refine ax_sub (lv' := [(0, .ref G.2.2.2.2.1), (1, .ref (ad (0, 0))), (2, .ref (A 0)), (3, .ref ou), (4, .ref od), (5, .int (nI i)), (6, .int (nI (po_mean σ).1)), (7, .double b)]) (fun _ z => z) ?_
  refine ax_aload_n dL_law_1107 rfl ?_
  refine ax_callV (b := A 0) (av := []) (rest := []) (mc' := 0) (ms' := 0) dL_law_1108 rfl lkL_93 (rw_g0 (A := (A, ad, S')) l1) rfl (Nat.le_of_ble_eq_true rfl) (Nat.le_of_ble_eq_true rfl) (by omega) (by omega) (r_thrown (A := (A, ad, S')) l1 (d + 79) R' h') (fun E9 h9 q9 => by cases q9.1) (fun v9 h9 q9 => ?_)
  obtain ⟨e9, rfl⟩ := q9
  cases e9
  show AW G mL_law (d + 80) mc ms Q 1111 [(0, .ref G.2.2.2.2.1), (1, .ref (ad (0, 0))), (2, .ref (A 0)), (3, .ref ou), (4, .ref od), (5, .int (nI i)), (6, .int (nI (po_mean σ).1)), (7, .double b)] [.int (R'.1 0)] (rw_O (A, ad, S') R' h') (cn + 1 + 0) (sn + 6 + 0)
  rw [a3]
  refine ax_iload dL_law_1111 rfl ?_
  refine ax_icmp_eq (tgt := 1118) dL_law_1113 (by decide) (fun _ => ?_) (fun z => absurd rfl z)
  refine ax_iload dL_law_1118 rfl ?_
  have hfin : AW G mL_law (d + 80) mc ms Q 1155 [(0, .ref G.2.2.2.2.1), (1, .ref (ad (0, 0))), (2, .ref (A 0)), (3, .ref ou), (4, .ref od), (5, .int (nI i)), (6, .int (nI (po_mean σ).1)), (7, .double b)] [] (rw_O (A, ad, S') R' h') (cn + 1 + 0) (sn + 6 + 0) := by
    refine ax_goto (tgt := 1391) dL_law_1155 (by decide) ?_
    exact ax_sub (fun q hq => List.mem_append_left [(6, Value.int (nI (po_mean σ).1)), (7, Value.double b)] hq) (kk S' R' h' (LI_nx hL hC' a2 ⟨f, h1o⟩ ⟨f', h1d⟩ a1))
  by_cases z0 : (po_mean σ).1 = 0
  · refine ax_if_ne (tgt := 1155) dL_law_1120 (by decide) (fun z => absurd (by rw [z0]; rfl) z) (fun _ => ?_)
    refine ax_aload dL_law_1123 rfl ?_
    refine ax_iconst (v := 0) dL_law_1125 (by decide) ?_
    refine ax_dald dL_law_1126 (rw_rd (A := (A, ad, S')) ⟨a1 _ _ h1d, l9⟩) (by unfold vp_in; decide) ?_
    rw [show f' (0 : Int32).toNatClampNeg = b from (hV z0).trans (a4 z0).symm]
    refine ax_dload dL_law_1127 rfl ?_
    refine ax_dcmp dL_law_1129 ?_
    refine ax_if_eq (tgt := 1155) dL_law_1130 (by decide) (fun _ => hfin) (fun c0 => ?_)
    refine ax_aload dL_law_1133 rfl ?_
    refine ax_iconst (v := 0) dL_law_1135 (by decide) ?_
    refine ax_dald dL_law_1136 (rw_rd (A := (A, ad, S')) ⟨a1 _ _ h1d, l9⟩) (by unfold vp_in; decide) ?_
    refine ax_aload dL_law_1137 rfl ?_
    refine ax_iconst (v := 0) dL_law_1139 (by decide) ?_
    refine ax_dald dL_law_1140 (rw_rd (A := (A, ad, S')) ⟨a1 _ _ h1d, l9⟩) (by unfold vp_in; decide) ?_
    rw [show f' (0 : Int32).toNatClampNeg = b from (hV z0).trans (a4 z0).symm]
    refine ax_dcmp dL_law_1141 ?_
    refine ax_if_eq (tgt := 1153) dL_law_1142 (by decide) (fun z => absurd z c0) (fun _ => ?_)
    refine ax_dload dL_law_1145 rfl ?_
    refine ax_dload dL_law_1147 rfl ?_
    refine ax_dcmp dL_law_1149 ?_
    exact ax_if_ne (tgt := 1155) dL_law_1150 (by decide) (fun _ => hfin) (fun z => absurd z c0)
  · exact ax_if_ne (tgt := 1155) dL_law_1120 (by decide) (fun _ => hfin) (fun z => absurd z (by rw [hm1 z0]; decide))
end LAW3
