/-! ===== the law: its cases, further ===== -/
section LAW2
variable {G : ax_G}
set_option maxRecDepth 100000 in
set_option maxHeartbeats 4000000 in
theorem lc_read (d : Nat) {mc ms cn sn i ou od : Nat} {A : Nat → Nat} {ad : cs_K → Nat} {S : cs_S} {R : rw_S} {h : ax_H} {σ : sp_St} (hL : LI A ad S R h σ ou od) (hi : i + 6 ≤ G.2.2.2.2.2.1) (hN : G.2.2.2.2.2.1 ≤ 3072) (hcn : cn + 1 + (rw_bC (po_wr σ (G.2.2.2.2.2.2 (i + 1))) R σ.1) ≤ mc) (hsn : sn + 6 + (rw_bS (po_wr σ (G.2.2.2.2.2.2 (i + 1))) R σ.1) ≤ ms) {Q : ax_P} (kk : ∀ S' R' h', LI A ad S' R' h' (po_read σ (G.2.2.2.2.2.2 (i + 1))).2 ou od → ((po_wr σ (G.2.2.2.2.2.2 (i + 1))) = true → R'.1 12 = 1) → AW G mL_law (d + 80) mc ms Q 1391 [(0, .ref G.2.2.2.2.1), (1, .ref (ad (0, 0))), (2, .ref (A 0)), (3, .ref ou), (4, .ref od), (5, .int (nI i))] [] (rw_O (A, ad, S') R' h') (cn + 1 + (rw_bC (po_wr σ (G.2.2.2.2.2.2 (i + 1))) R σ.1)) (sn + 6 + (rw_bS (po_wr σ (G.2.2.2.2.2.2 (i + 1))) R σ.1))) : AW G mL_law (d + 80) mc ms Q 849 [(0, .ref G.2.2.2.2.1), (1, .ref (ad (0, 0))), (2, .ref (A 0)), (3, .ref ou), (4, .ref od), (5, .int (nI i))] [] (rw_O (A, ad, S) R h) cn sn := by
  have hne := LI_ne hL
  obtain ⟨l1, l2, l3, l4, l5, ⟨f, hf⟩, l7, ⟨g, hg⟩, l9⟩ := id hL
  refine ax_aload_n dL_law_849 rfl ?_
  refine ax_aload_n dL_law_850 rfl ?_
  refine ax_iload dL_law_851 rfl ?_
  refine ax_iconst (v := 1) dL_law_853 (by decide) ?_
  refine ax_iadd dL_law_854 ?_
  refine ax_top (y := nI (i + 1)) (nI_add i 1) ?_
  refine ax_sld dL_law_855 (nI_in (by omega) (by omega)) ?_
  refine ax_top (y := (G.2.2.2.2.2.2 (i + 1))) (by rw [nI_clamp (by omega)]) ?_
  refine ax_aload_n dL_law_856 rfl ?_
  refine ax_eqh (rw_sw l3) ?_
  refine ax_callH (av := [.ref (ad (0, 0)), .int (G.2.2.2.2.2.2 (i + 1)), .ref ou]) (rest := []) (mc' := 1) (ms' := 6) dL_law_857 rfl lkL_135 rfl (Nat.le_of_ble_eq_true rfl) (Nat.le_of_ble_eq_true rfl) (by omega) (by omega) (lh_read l2 (d + 56) S (ax_w h (rw_l (A, ad, S) R)) l4 (G.2.2.2.2.2.2 (i + 1)) (rw_rou l3 l7 hf) (Q := fun r h9 => r = .inl (some (.int (nI (po_read σ (G.2.2.2.2.2.2 (i + 1))).1.1))) ∧ ∃ S' f', CI (po_read σ (G.2.2.2.2.2.2 (i + 1))).2 S' ∧ h9 = va_up (cs_O ad S' (ax_w h (rw_l (A, ad, S) R))) ou (some (.inl (1, 1, .inr (.inl f')))) ∧ ((po_read σ (G.2.2.2.2.2.2 (i + 1))).1.1 = 0 → f' 0 = ((po_read σ (G.2.2.2.2.2.2 (i + 1))).1.2.toInt64))) (fun S' c z => ⟨by rw [z]; rfl, S', _, c, rfl, fun _ => if_pos rfl⟩) (fun S' c z => ⟨rfl, S', f, c, (va_up_id (rw_rou l3 l7 hf S')).symm, fun w => absurd w z⟩)) (fun E9 h9 q9 => by cases q9.1) (fun v9 h9 q9 => ?_)
  obtain ⟨e9, S', f', hC', rfl, hV⟩ := q9
  cases e9
  refine ax_eqh (rw_lou l3 l7 S' _) ?_
  obtain ⟨h1, hh1⟩ : ∃ h1, h1 = va_up h ou (some (.inl (1, 1, .inr (.inl f')))) := ⟨_, rfl⟩
  rw [← hh1]
  have h1o : h1 ou = some (.inl (1, 1, .inr (.inl f'))) := by rw [hh1, ax_up_s]
  have h1d : h1 od = some (.inl (2, 1, .inr (.inr (.inr (.inl g))))) := by rw [hh1, ax_up_n (Ne.symm hne)]; exact hg
  have hR1 : RI (A, ad, S') σ R h1 := by rw [hh1]; exact RI_ou (fun n f0 e => by rw [hf] at e; cases e) (LI_S l5)
  show AW G mL_law (d + 80) mc ms Q 860 [(0, .ref G.2.2.2.2.1), (1, .ref (ad (0, 0))), (2, .ref (A 0)), (3, .ref ou), (4, .ref od), (5, .int (nI i))] [.int (nI (po_read σ (G.2.2.2.2.2.2 (i + 1))).1.1)] (rw_O (A, ad, S') R h1) (cn + 1) (sn + 6)
  refine ax_istore dL_law_860 (by decide) ?_
  refine ax_sub (lv' := [(0, .ref G.2.2.2.2.1), (1, .ref (ad (0, 0))), (2, .ref (A 0)), (3, .ref ou), (4, .ref od), (5, .int (nI i)), (6, .int (nI (po_read σ (G.2.2.2.2.2.2 (i + 1))).1.1))]) (fun _ z => z) ?_
  refine ax_aload_n dL_law_862 rfl ?_
  refine ax_aload_n dL_law_863 rfl ?_
  refine ax_iload dL_law_864 rfl ?_
  refine ax_iconst (v := 1) dL_law_866 (by decide) ?_
  refine ax_iadd dL_law_867 ?_
  refine ax_top (y := nI (i + 1)) (nI_add i 1) ?_
  refine ax_sld dL_law_868 (nI_in (by omega) (by omega)) ?_
  refine ax_top (y := (G.2.2.2.2.2.2 (i + 1))) (by rw [nI_clamp (by omega)]) ?_
  refine ax_callV (b := A 0) (av := [.int (G.2.2.2.2.2.2 (i + 1))]) (rest := []) (mc' := (rw_bC (po_wr σ (G.2.2.2.2.2.2 (i + 1))) R σ.1)) (ms' := (rw_bS (po_wr σ (G.2.2.2.2.2.2 (i + 1))) R σ.1)) dL_law_869 rfl lkL_137 (rw_g0 (A := (A, ad, S')) l1) rfl (Nat.le_of_ble_eq_true rfl) (Nat.le_of_ble_eq_true rfl) (by omega) (by omega) (rb_read (A := (A, ad, S')) l1 (d + 31) R h1 hR1 (G.2.2.2.2.2.2 (i + 1)) (tb_cp hR1.1)) (fun E9 h9 q9 => by obtain ⟨_, _, _, e9, _⟩ := q9; cases e9) (fun v9 h9 q9 => ?_)
  obtain ⟨R', h', b, e9, rfl, a1, a2, a3, a4, a5⟩ := q9
  cases e9
  show AW G mL_law (d + 80) mc ms Q 872 [(0, .ref G.2.2.2.2.1), (1, .ref (ad (0, 0))), (2, .ref (A 0)), (3, .ref ou), (4, .ref od), (5, .int (nI i)), (6, .int (nI (po_read σ (G.2.2.2.2.2.2 (i + 1))).1.1))] [.int b] (rw_O (A, ad, S') R' h') (cn + 1 + (rw_bC (po_wr σ (G.2.2.2.2.2.2 (i + 1))) R σ.1)) (sn + 6 + (rw_bS (po_wr σ (G.2.2.2.2.2.2 (i + 1))) R σ.1))
  refine ax_istore dL_law_872 (by decide) ?_
  refine ax_sub (lv' := [(0, .ref G.2.2.2.2.1), (1, .ref (ad (0, 0))), (2, .ref (A 0)), (3, .ref ou), (4, .ref od), (5, .int (nI i)), (6, .int (nI (po_read σ (G.2.2.2.2.2.2 (i + 1))).1.1)), (7, .int b)]) (fun _ z => z) ?_
  refine ax_aload_n dL_law_874 rfl ?_
  refine ax_callV (b := A 0) (av := []) (rest := []) (mc' := 0) (ms' := 0) dL_law_875 rfl lkL_93 (rw_g0 (A := (A, ad, S')) l1) rfl (Nat.le_of_ble_eq_true rfl) (Nat.le_of_ble_eq_true rfl) (by omega) (by omega) (r_thrown (A := (A, ad, S')) l1 (d + 79) R' h') (fun E9 h9 q9 => by cases q9.1) (fun v9 h9 q9 => ?_)
  obtain ⟨e9, rfl⟩ := q9
  cases e9
  show AW G mL_law (d + 80) mc ms Q 878 [(0, .ref G.2.2.2.2.1), (1, .ref (ad (0, 0))), (2, .ref (A 0)), (3, .ref ou), (4, .ref od), (5, .int (nI i)), (6, .int (nI (po_read σ (G.2.2.2.2.2.2 (i + 1))).1.1)), (7, .int b)] [.int (R'.1 0)] (rw_O (A, ad, S') R' h') (cn + 1 + (rw_bC (po_wr σ (G.2.2.2.2.2.2 (i + 1))) R σ.1)) (sn + 6 + (rw_bS (po_wr σ (G.2.2.2.2.2.2 (i + 1))) R σ.1))
  rw [a3]
  refine ax_iload dL_law_878 rfl ?_
  refine ax_icmp_eq (tgt := 885) dL_law_880 (by decide) (fun _ => ?_) (fun z => absurd rfl z)
  refine ax_iload dL_law_885 rfl ?_
  have hfin : AW G mL_law (d + 80) mc ms Q 902 [(0, .ref G.2.2.2.2.1), (1, .ref (ad (0, 0))), (2, .ref (A 0)), (3, .ref ou), (4, .ref od), (5, .int (nI i)), (6, .int (nI (po_read σ (G.2.2.2.2.2.2 (i + 1))).1.1)), (7, .int b)] [] (rw_O (A, ad, S') R' h') (cn + 1 + (rw_bC (po_wr σ (G.2.2.2.2.2.2 (i + 1))) R σ.1)) (sn + 6 + (rw_bS (po_wr σ (G.2.2.2.2.2.2 (i + 1))) R σ.1)) := by
    refine ax_goto (tgt := 1391) dL_law_902 (by decide) ?_
    exact ax_sub (fun q hq => List.mem_append_left [(6, Value.int (nI (po_read σ (G.2.2.2.2.2.2 (i + 1))).1.1)), (7, Value.int b)] hq) (kk S' R' h' (LI_nx hL hC' a2 ⟨f', h1o⟩ ⟨g, h1d⟩ a1) a5)
  by_cases z0 : (po_read σ (G.2.2.2.2.2.2 (i + 1))).1.1 = 0
  · refine ax_if_ne (tgt := 902) dL_law_887 (by decide) (fun z => absurd (by rw [z0]; rfl) z) (fun _ => ?_)
    refine ax_aload_n dL_law_890 rfl ?_
    refine ax_iconst (v := 0) dL_law_891 (by decide) ?_
    refine ax_lald dL_law_892 (rw_rd (A := (A, ad, S')) ⟨a1 _ _ h1o, l7⟩) (by unfold vp_in; decide) ?_
    rw [show f' (0 : Int32).toNatClampNeg = ((po_read σ (G.2.2.2.2.2.2 (i + 1))).1.2.toInt64) from hV z0]
    refine ax_iload dL_law_893 rfl ?_
    rw [a4 z0] at hfin ⊢
    refine ax_i2l dL_law_895 ?_
    refine ax_lcmp dL_law_896 ?_
    rw [lg_cmp0]
    exact ax_if_eq (tgt := 902) dL_law_897 (by decide) (fun _ => hfin) (fun z => absurd rfl z)
  · exact ax_if_ne (tgt := 902) dL_law_887 (by decide) (fun _ => hfin) (fun z => absurd z (il_ne _ 0 z0 rfl rfl (by have := pl_read σ (G.2.2.2.2.2.2 (i + 1)); omega) (by decide)))
set_option maxRecDepth 100000 in
set_option maxHeartbeats 4000000 in
theorem lc_length (d : Nat) {mc ms cn sn i ou od : Nat} {A : Nat → Nat} {ad : cs_K → Nat} {S : cs_S} {R : rw_S} {h : ax_H} {σ : sp_St} (hL : LI A ad S R h σ ou od) (hi : i + 6 ≤ G.2.2.2.2.2.1) (hN : G.2.2.2.2.2.1 ≤ 3072) (hcn : cn + 1 + 0 ≤ mc) (hsn : sn + 6 + 0 ≤ ms) {Q : ax_P} (kk : ∀ S' R' h', LI A ad S' R' h' (po_length σ).2 ou od → AW G mL_law (d + 80) mc ms Q 1391 [(0, .ref G.2.2.2.2.1), (1, .ref (ad (0, 0))), (2, .ref (A 0)), (3, .ref ou), (4, .ref od), (5, .int (nI i))] [] (rw_O (A, ad, S') R' h') (cn + 1 + 0) (sn + 6 + 0)) : AW G mL_law (d + 80) mc ms Q 905 [(0, .ref G.2.2.2.2.1), (1, .ref (ad (0, 0))), (2, .ref (A 0)), (3, .ref ou), (4, .ref od), (5, .int (nI i))] [] (rw_O (A, ad, S) R h) cn sn := by
  have hne := LI_ne hL
  obtain ⟨l1, l2, l3, l4, l5, ⟨f, hf⟩, l7, ⟨g, hg⟩, l9⟩ := id hL
  refine ax_aload_n dL_law_905 rfl ?_
  refine ax_aload_n dL_law_906 rfl ?_
  refine ax_eqh (rw_sw l3) ?_
  refine ax_callH (av := [.ref (ad (0, 0)), .ref ou]) (rest := []) (mc' := 1) (ms' := 6) dL_law_907 rfl lkL_138 rfl (Nat.le_of_ble_eq_true rfl) (Nat.le_of_ble_eq_true rfl) (by omega) (by omega) (lh_length l2 (d + 62) S (ax_w h (rw_l (A, ad, S) R)) l4  (rw_rou l3 l7 hf) (Q := fun r h9 => r = .inl (some (.int (nI (po_length σ).1.1))) ∧ ∃ S' f', CI (po_length σ).2 S' ∧ h9 = va_up (cs_O ad S' (ax_w h (rw_l (A, ad, S) R))) ou (some (.inl (1, 1, .inr (.inl f')))) ∧ ((po_length σ).1.1 = 0 → f' 0 = ((po_length σ).1.2.toInt64))) (fun S' c z => ⟨by rw [z]; rfl, S', _, c, rfl, fun _ => if_pos rfl⟩) (fun S' c z => ⟨rfl, S', f, c, (va_up_id (rw_rou l3 l7 hf S')).symm, fun w => absurd w z⟩)) (fun E9 h9 q9 => by cases q9.1) (fun v9 h9 q9 => ?_)
  obtain ⟨e9, S', f', hC', rfl, hV⟩ := q9
  cases e9
  refine ax_eqh (rw_lou l3 l7 S' _) ?_
  obtain ⟨h1, hh1⟩ : ∃ h1, h1 = va_up h ou (some (.inl (1, 1, .inr (.inl f')))) := ⟨_, rfl⟩
  rw [← hh1]
  have h1o : h1 ou = some (.inl (1, 1, .inr (.inl f'))) := by rw [hh1, ax_up_s]
  have h1d : h1 od = some (.inl (2, 1, .inr (.inr (.inr (.inl g))))) := by rw [hh1, ax_up_n (Ne.symm hne)]; exact hg
  have hR1 : RI (A, ad, S') σ R h1 := by rw [hh1]; exact RI_ou (fun n f0 e => by rw [hf] at e; cases e) (LI_S l5)
  show AW G mL_law (d + 80) mc ms Q 910 [(0, .ref G.2.2.2.2.1), (1, .ref (ad (0, 0))), (2, .ref (A 0)), (3, .ref ou), (4, .ref od), (5, .int (nI i))] [.int (nI (po_length σ).1.1)] (rw_O (A, ad, S') R h1) (cn + 1) (sn + 6)
  refine ax_istore dL_law_910 (by decide) ?_
  refine ax_sub (lv' := [(0, .ref G.2.2.2.2.1), (1, .ref (ad (0, 0))), (2, .ref (A 0)), (3, .ref ou), (4, .ref od), (5, .int (nI i)), (6, .int (nI (po_length σ).1.1))]) (fun _ z => z) ?_
  refine ax_aload_n dL_law_912 rfl ?_
  refine ax_callV (b := A 0) (av := []) (rest := []) (mc' := 0) (ms' := 0) dL_law_913 rfl lkL_140 (rw_g0 (A := (A, ad, S')) l1) rfl (Nat.le_of_ble_eq_true rfl) (Nat.le_of_ble_eq_true rfl) (by omega) (by omega) (rb_length (A := (A, ad, S')) l1 (d + 31) R h1 hR1 ) (fun E9 h9 q9 => by obtain ⟨_, _, _, e9, _⟩ := q9; cases e9) (fun v9 h9 q9 => ?_)
  obtain ⟨R', h', b, e9, rfl, a1, a2, a3, a4⟩ := q9
  cases e9
  show AW G mL_law (d + 80) mc ms Q 916 [(0, .ref G.2.2.2.2.1), (1, .ref (ad (0, 0))), (2, .ref (A 0)), (3, .ref ou), (4, .ref od), (5, .int (nI i)), (6, .int (nI (po_length σ).1.1))] [.int b] (rw_O (A, ad, S') R' h') (cn + 1 + 0) (sn + 6 + 0)
  refine ax_istore dL_law_916 (by decide) ?_
  refine ax_sub (lv' := [(0, .ref G.2.2.2.2.1), (1, .ref (ad (0, 0))), (2, .ref (A 0)), (3, .ref ou), (4, .ref od), (5, .int (nI i)), (6, .int (nI (po_length σ).1.1)), (7, .int b)]) (fun _ z => z) ?_
  refine ax_aload_n dL_law_918 rfl ?_
  refine ax_callV (b := A 0) (av := []) (rest := []) (mc' := 0) (ms' := 0) dL_law_919 rfl lkL_93 (rw_g0 (A := (A, ad, S')) l1) rfl (Nat.le_of_ble_eq_true rfl) (Nat.le_of_ble_eq_true rfl) (by omega) (by omega) (r_thrown (A := (A, ad, S')) l1 (d + 79) R' h') (fun E9 h9 q9 => by cases q9.1) (fun v9 h9 q9 => ?_)
  obtain ⟨e9, rfl⟩ := q9
  cases e9
  show AW G mL_law (d + 80) mc ms Q 922 [(0, .ref G.2.2.2.2.1), (1, .ref (ad (0, 0))), (2, .ref (A 0)), (3, .ref ou), (4, .ref od), (5, .int (nI i)), (6, .int (nI (po_length σ).1.1)), (7, .int b)] [.int (R'.1 0)] (rw_O (A, ad, S') R' h') (cn + 1 + 0) (sn + 6 + 0)
  rw [a3]
  refine ax_iload dL_law_922 rfl ?_
  refine ax_icmp_eq (tgt := 929) dL_law_924 (by decide) (fun _ => ?_) (fun z => absurd rfl z)
  refine ax_iload dL_law_929 rfl ?_
  have hfin : AW G mL_law (d + 80) mc ms Q 946 [(0, .ref G.2.2.2.2.1), (1, .ref (ad (0, 0))), (2, .ref (A 0)), (3, .ref ou), (4, .ref od), (5, .int (nI i)), (6, .int (nI (po_length σ).1.1)), (7, .int b)] [] (rw_O (A, ad, S') R' h') (cn + 1 + 0) (sn + 6 + 0) := by
    refine ax_goto (tgt := 1391) dL_law_946 (by decide) ?_
    exact ax_sub (fun q hq => List.mem_append_left [(6, Value.int (nI (po_length σ).1.1)), (7, Value.int b)] hq) (kk S' R' h' (LI_nx hL hC' a2 ⟨f', h1o⟩ ⟨g, h1d⟩ a1))
  by_cases z0 : (po_length σ).1.1 = 0
  · refine ax_if_ne (tgt := 946) dL_law_931 (by decide) (fun z => absurd (by rw [z0]; rfl) z) (fun _ => ?_)
    refine ax_aload_n dL_law_934 rfl ?_
    refine ax_iconst (v := 0) dL_law_935 (by decide) ?_
    refine ax_lald dL_law_936 (rw_rd (A := (A, ad, S')) ⟨a1 _ _ h1o, l7⟩) (by unfold vp_in; decide) ?_
    rw [show f' (0 : Int32).toNatClampNeg = ((po_length σ).1.2.toInt64) from hV z0]
    refine ax_iload dL_law_937 rfl ?_
    rw [a4 z0] at hfin ⊢
    refine ax_i2l dL_law_939 ?_
    refine ax_lcmp dL_law_940 ?_
    rw [lg_cmp0]
    exact ax_if_eq (tgt := 946) dL_law_941 (by decide) (fun _ => hfin) (fun z => absurd rfl z)
  · exact ax_if_ne (tgt := 946) dL_law_931 (by decide) (fun _ => hfin) (fun z => absurd z (il_ne _ 0 z0 rfl rfl (by have := pl_length σ ; omega) (by decide)))
set_option maxRecDepth 100000 in
set_option maxHeartbeats 4000000 in
theorem lc_code (d : Nat) {mc ms cn sn i ou od : Nat} {A : Nat → Nat} {ad : cs_K → Nat} {S : cs_S} {R : rw_S} {h : ax_H} {σ : sp_St} (hL : LI A ad S R h σ ou od) (hi : i + 6 ≤ G.2.2.2.2.2.1) (hN : G.2.2.2.2.2.1 ≤ 3072) (hcn : cn + 1 + 0 ≤ mc) (hsn : sn + 6 + 0 ≤ ms) {Q : ax_P} (kk : ∀ S' R' h', LI A ad S' R' h' (po_code σ (G.2.2.2.2.2.2 (i + 1))).2 ou od → AW G mL_law (d + 80) mc ms Q 1391 [(0, .ref G.2.2.2.2.1), (1, .ref (ad (0, 0))), (2, .ref (A 0)), (3, .ref ou), (4, .ref od), (5, .int (nI i))] [] (rw_O (A, ad, S') R' h') (cn + 1 + 0) (sn + 6 + 0)) : AW G mL_law (d + 80) mc ms Q 949 [(0, .ref G.2.2.2.2.1), (1, .ref (ad (0, 0))), (2, .ref (A 0)), (3, .ref ou), (4, .ref od), (5, .int (nI i))] [] (rw_O (A, ad, S) R h) cn sn := by
  have hne := LI_ne hL
  obtain ⟨l1, l2, l3, l4, l5, ⟨f, hf⟩, l7, ⟨g, hg⟩, l9⟩ := id hL
  refine ax_aload_n dL_law_949 rfl ?_
  refine ax_aload_n dL_law_950 rfl ?_
  refine ax_iload dL_law_951 rfl ?_
  refine ax_iconst (v := 1) dL_law_953 (by decide) ?_
  refine ax_iadd dL_law_954 ?_
  refine ax_top (y := nI (i + 1)) (nI_add i 1) ?_
  refine ax_sld dL_law_955 (nI_in (by omega) (by omega)) ?_
  refine ax_top (y := (G.2.2.2.2.2.2 (i + 1))) (by rw [nI_clamp (by omega)]) ?_
  refine ax_aload_n dL_law_956 rfl ?_
  refine ax_eqh (rw_sw l3) ?_
  refine ax_callH (av := [.ref (ad (0, 0)), .int (G.2.2.2.2.2.2 (i + 1)), .ref ou]) (rest := []) (mc' := 1) (ms' := 6) dL_law_957 rfl lkL_141 rfl (Nat.le_of_ble_eq_true rfl) (Nat.le_of_ble_eq_true rfl) (by omega) (by omega) (lh_code l2 (d + 62) S (ax_w h (rw_l (A, ad, S) R)) l4 (G.2.2.2.2.2.2 (i + 1)) (rw_rou l3 l7 hf) (Q := fun r h9 => r = .inl (some (.int (nI (po_code σ (G.2.2.2.2.2.2 (i + 1))).1.1))) ∧ ∃ S' f', CI (po_code σ (G.2.2.2.2.2.2 (i + 1))).2 S' ∧ h9 = va_up (cs_O ad S' (ax_w h (rw_l (A, ad, S) R))) ou (some (.inl (1, 1, .inr (.inl f')))) ∧ ((po_code σ (G.2.2.2.2.2.2 (i + 1))).1.1 = 0 → f' 0 = ((po_code σ (G.2.2.2.2.2.2 (i + 1))).1.2.toInt64))) (fun S' c z => ⟨by rw [z]; rfl, S', _, c, rfl, fun _ => if_pos rfl⟩) (fun S' c z => ⟨rfl, S', f, c, (va_up_id (rw_rou l3 l7 hf S')).symm, fun w => absurd w z⟩)) (fun E9 h9 q9 => by cases q9.1) (fun v9 h9 q9 => ?_)
  obtain ⟨e9, S', f', hC', rfl, hV⟩ := q9
  cases e9
  refine ax_eqh (rw_lou l3 l7 S' _) ?_
  obtain ⟨h1, hh1⟩ : ∃ h1, h1 = va_up h ou (some (.inl (1, 1, .inr (.inl f')))) := ⟨_, rfl⟩
  rw [← hh1]
  have h1o : h1 ou = some (.inl (1, 1, .inr (.inl f'))) := by rw [hh1, ax_up_s]
  have h1d : h1 od = some (.inl (2, 1, .inr (.inr (.inr (.inl g))))) := by rw [hh1, ax_up_n (Ne.symm hne)]; exact hg
  have hR1 : RI (A, ad, S') σ R h1 := by rw [hh1]; exact RI_ou (fun n f0 e => by rw [hf] at e; cases e) (LI_S l5)
  show AW G mL_law (d + 80) mc ms Q 960 [(0, .ref G.2.2.2.2.1), (1, .ref (ad (0, 0))), (2, .ref (A 0)), (3, .ref ou), (4, .ref od), (5, .int (nI i))] [.int (nI (po_code σ (G.2.2.2.2.2.2 (i + 1))).1.1)] (rw_O (A, ad, S') R h1) (cn + 1) (sn + 6)
  refine ax_istore dL_law_960 (by decide) ?_
  refine ax_sub (lv' := [(0, .ref G.2.2.2.2.1), (1, .ref (ad (0, 0))), (2, .ref (A 0)), (3, .ref ou), (4, .ref od), (5, .int (nI i)), (6, .int (nI (po_code σ (G.2.2.2.2.2.2 (i + 1))).1.1))]) (fun _ z => z) ?_
  refine ax_aload_n dL_law_962 rfl ?_
  refine ax_aload_n dL_law_963 rfl ?_
  refine ax_iload dL_law_964 rfl ?_
  refine ax_iconst (v := 1) dL_law_966 (by decide) ?_
  refine ax_iadd dL_law_967 ?_
  refine ax_top (y := nI (i + 1)) (nI_add i 1) ?_
  refine ax_sld dL_law_968 (nI_in (by omega) (by omega)) ?_
  refine ax_top (y := (G.2.2.2.2.2.2 (i + 1))) (by rw [nI_clamp (by omega)]) ?_
  refine ax_callV (b := A 0) (av := [.int (G.2.2.2.2.2.2 (i + 1))]) (rest := []) (mc' := 0) (ms' := 0) dL_law_969 rfl lkL_143 (rw_g0 (A := (A, ad, S')) l1) rfl (Nat.le_of_ble_eq_true rfl) (Nat.le_of_ble_eq_true rfl) (by omega) (by omega) (rb_code (A := (A, ad, S')) l1 (d + 31) R h1 hR1 (G.2.2.2.2.2.2 (i + 1))) (fun E9 h9 q9 => by obtain ⟨_, _, _, e9, _⟩ := q9; cases e9) (fun v9 h9 q9 => ?_)
  obtain ⟨R', h', b, e9, rfl, a1, a2, a3, a4⟩ := q9
  cases e9
  show AW G mL_law (d + 80) mc ms Q 972 [(0, .ref G.2.2.2.2.1), (1, .ref (ad (0, 0))), (2, .ref (A 0)), (3, .ref ou), (4, .ref od), (5, .int (nI i)), (6, .int (nI (po_code σ (G.2.2.2.2.2.2 (i + 1))).1.1))] [.int b] (rw_O (A, ad, S') R' h') (cn + 1 + 0) (sn + 6 + 0)
  refine ax_istore dL_law_972 (by decide) ?_
  refine ax_sub (lv' := [(0, .ref G.2.2.2.2.1), (1, .ref (ad (0, 0))), (2, .ref (A 0)), (3, .ref ou), (4, .ref od), (5, .int (nI i)), (6, .int (nI (po_code σ (G.2.2.2.2.2.2 (i + 1))).1.1)), (7, .int b)]) (fun _ z => z) ?_
  refine ax_aload_n dL_law_974 rfl ?_
  refine ax_callV (b := A 0) (av := []) (rest := []) (mc' := 0) (ms' := 0) dL_law_975 rfl lkL_93 (rw_g0 (A := (A, ad, S')) l1) rfl (Nat.le_of_ble_eq_true rfl) (Nat.le_of_ble_eq_true rfl) (by omega) (by omega) (r_thrown (A := (A, ad, S')) l1 (d + 79) R' h') (fun E9 h9 q9 => by cases q9.1) (fun v9 h9 q9 => ?_)
  obtain ⟨e9, rfl⟩ := q9
  cases e9
  show AW G mL_law (d + 80) mc ms Q 978 [(0, .ref G.2.2.2.2.1), (1, .ref (ad (0, 0))), (2, .ref (A 0)), (3, .ref ou), (4, .ref od), (5, .int (nI i)), (6, .int (nI (po_code σ (G.2.2.2.2.2.2 (i + 1))).1.1)), (7, .int b)] [.int (R'.1 0)] (rw_O (A, ad, S') R' h') (cn + 1 + 0) (sn + 6 + 0)
  rw [a3]
  refine ax_iload dL_law_978 rfl ?_
  refine ax_icmp_eq (tgt := 985) dL_law_980 (by decide) (fun _ => ?_) (fun z => absurd rfl z)
  refine ax_iload dL_law_985 rfl ?_
  have hfin : AW G mL_law (d + 80) mc ms Q 1002 [(0, .ref G.2.2.2.2.1), (1, .ref (ad (0, 0))), (2, .ref (A 0)), (3, .ref ou), (4, .ref od), (5, .int (nI i)), (6, .int (nI (po_code σ (G.2.2.2.2.2.2 (i + 1))).1.1)), (7, .int b)] [] (rw_O (A, ad, S') R' h') (cn + 1 + 0) (sn + 6 + 0) := by
    refine ax_goto (tgt := 1391) dL_law_1002 (by decide) ?_
    exact ax_sub (fun q hq => List.mem_append_left [(6, Value.int (nI (po_code σ (G.2.2.2.2.2.2 (i + 1))).1.1)), (7, Value.int b)] hq) (kk S' R' h' (LI_nx hL hC' a2 ⟨f', h1o⟩ ⟨g, h1d⟩ a1))
  by_cases z0 : (po_code σ (G.2.2.2.2.2.2 (i + 1))).1.1 = 0
  · refine ax_if_ne (tgt := 1002) dL_law_987 (by decide) (fun z => absurd (by rw [z0]; rfl) z) (fun _ => ?_)
    refine ax_aload_n dL_law_990 rfl ?_
    refine ax_iconst (v := 0) dL_law_991 (by decide) ?_
    refine ax_lald dL_law_992 (rw_rd (A := (A, ad, S')) ⟨a1 _ _ h1o, l7⟩) (by unfold vp_in; decide) ?_
    rw [show f' (0 : Int32).toNatClampNeg = ((po_code σ (G.2.2.2.2.2.2 (i + 1))).1.2.toInt64) from hV z0]
    refine ax_iload dL_law_993 rfl ?_
    rw [a4 z0] at hfin ⊢
    refine ax_i2l dL_law_995 ?_
    refine ax_lcmp dL_law_996 ?_
    rw [lg_cmp0]
    exact ax_if_eq (tgt := 1002) dL_law_997 (by decide) (fun _ => hfin) (fun z => absurd rfl z)
  · exact ax_if_ne (tgt := 1002) dL_law_987 (by decide) (fun _ => hfin) (fun z => absurd z (il_ne _ 0 z0 rfl rfl (by have := pl_code σ (G.2.2.2.2.2.2 (i + 1)); omega) (by decide)))
set_option maxRecDepth 100000 in
set_option maxHeartbeats 4000000 in
theorem lc_number (d : Nat) {mc ms cn sn i ou od : Nat} {A : Nat → Nat} {ad : cs_K → Nat} {S : cs_S} {R : rw_S} {h : ax_H} {σ : sp_St} (hL : LI A ad S R h σ ou od) (hi : i + 6 ≤ G.2.2.2.2.2.1) (hN : G.2.2.2.2.2.1 ≤ 3072) (hcn : cn + 1 + 0 ≤ mc) (hsn : sn + 6 + 0 ≤ ms) {Q : ax_P} (kk : ∀ S' R' h', LI A ad S' R' h' (po_number σ).2 ou od → AW G mL_law (d + 80) mc ms Q 1391 [(0, .ref G.2.2.2.2.1), (1, .ref (ad (0, 0))), (2, .ref (A 0)), (3, .ref ou), (4, .ref od), (5, .int (nI i))] [] (rw_O (A, ad, S') R' h') (cn + 1 + 0) (sn + 6 + 0)) : AW G mL_law (d + 80) mc ms Q 1005 [(0, .ref G.2.2.2.2.1), (1, .ref (ad (0, 0))), (2, .ref (A 0)), (3, .ref ou), (4, .ref od), (5, .int (nI i))] [] (rw_O (A, ad, S) R h) cn sn := by
  have hne := LI_ne hL
  obtain ⟨l1, l2, l3, l4, l5, ⟨f, hf⟩, l7, ⟨g, hg⟩, l9⟩ := id hL
  refine ax_aload_n dL_law_1005 rfl ?_
  refine ax_aload_n dL_law_1006 rfl ?_
  refine ax_eqh (rw_sw l3) ?_
  refine ax_callH (av := [.ref (ad (0, 0)), .ref ou]) (rest := []) (mc' := 1) (ms' := 6) dL_law_1007 rfl lkL_144 rfl (Nat.le_of_ble_eq_true rfl) (Nat.le_of_ble_eq_true rfl) (by omega) (by omega) (lh_number l2 (d + 62) S (ax_w h (rw_l (A, ad, S) R)) l4  (rw_rou l3 l7 hf) (Q := fun r h9 => r = .inl (some (.int (nI (po_number σ).1.1))) ∧ ∃ S' f', CI (po_number σ).2 S' ∧ h9 = va_up (cs_O ad S' (ax_w h (rw_l (A, ad, S) R))) ou (some (.inl (1, 1, .inr (.inl f')))) ∧ ((po_number σ).1.1 = 0 → f' 0 = ((po_number σ).1.2.toInt64))) (fun S' c z => ⟨by rw [z]; rfl, S', _, c, rfl, fun _ => if_pos rfl⟩) (fun S' c z => ⟨rfl, S', f, c, (va_up_id (rw_rou l3 l7 hf S')).symm, fun w => absurd w z⟩)) (fun E9 h9 q9 => by cases q9.1) (fun v9 h9 q9 => ?_)
  obtain ⟨e9, S', f', hC', rfl, hV⟩ := q9
  cases e9
  refine ax_eqh (rw_lou l3 l7 S' _) ?_
  obtain ⟨h1, hh1⟩ : ∃ h1, h1 = va_up h ou (some (.inl (1, 1, .inr (.inl f')))) := ⟨_, rfl⟩
  rw [← hh1]
  have h1o : h1 ou = some (.inl (1, 1, .inr (.inl f'))) := by rw [hh1, ax_up_s]
  have h1d : h1 od = some (.inl (2, 1, .inr (.inr (.inr (.inl g))))) := by rw [hh1, ax_up_n (Ne.symm hne)]; exact hg
  have hR1 : RI (A, ad, S') σ R h1 := by rw [hh1]; exact RI_ou (fun n f0 e => by rw [hf] at e; cases e) (LI_S l5)
  show AW G mL_law (d + 80) mc ms Q 1010 [(0, .ref G.2.2.2.2.1), (1, .ref (ad (0, 0))), (2, .ref (A 0)), (3, .ref ou), (4, .ref od), (5, .int (nI i))] [.int (nI (po_number σ).1.1)] (rw_O (A, ad, S') R h1) (cn + 1) (sn + 6)
  refine ax_istore dL_law_1010 (by decide) ?_
  refine ax_sub (lv' := [(0, .ref G.2.2.2.2.1), (1, .ref (ad (0, 0))), (2, .ref (A 0)), (3, .ref ou), (4, .ref od), (5, .int (nI i)), (6, .int (nI (po_number σ).1.1))]) (fun _ z => z) ?_
  refine ax_aload_n dL_law_1012 rfl ?_
  refine ax_callV (b := A 0) (av := []) (rest := []) (mc' := 0) (ms' := 0) dL_law_1013 rfl lkL_146 (rw_g0 (A := (A, ad, S')) l1) rfl (Nat.le_of_ble_eq_true rfl) (Nat.le_of_ble_eq_true rfl) (by omega) (by omega) (rb_number (A := (A, ad, S')) l1 (d + 31) R h1 hR1 ) (fun E9 h9 q9 => by obtain ⟨_, _, _, e9, _⟩ := q9; cases e9) (fun v9 h9 q9 => ?_)
  obtain ⟨R', h', b, e9, rfl, a1, a2, a3, a4⟩ := q9
  cases e9
  show AW G mL_law (d + 80) mc ms Q 1016 [(0, .ref G.2.2.2.2.1), (1, .ref (ad (0, 0))), (2, .ref (A 0)), (3, .ref ou), (4, .ref od), (5, .int (nI i)), (6, .int (nI (po_number σ).1.1))] [.int b] (rw_O (A, ad, S') R' h') (cn + 1 + 0) (sn + 6 + 0)
  refine ax_istore dL_law_1016 (by decide) ?_
  refine ax_sub (lv' := [(0, .ref G.2.2.2.2.1), (1, .ref (ad (0, 0))), (2, .ref (A 0)), (3, .ref ou), (4, .ref od), (5, .int (nI i)), (6, .int (nI (po_number σ).1.1)), (7, .int b)]) (fun _ z => z) ?_
  refine ax_aload_n dL_law_1018 rfl ?_
  refine ax_callV (b := A 0) (av := []) (rest := []) (mc' := 0) (ms' := 0) dL_law_1019 rfl lkL_93 (rw_g0 (A := (A, ad, S')) l1) rfl (Nat.le_of_ble_eq_true rfl) (Nat.le_of_ble_eq_true rfl) (by omega) (by omega) (r_thrown (A := (A, ad, S')) l1 (d + 79) R' h') (fun E9 h9 q9 => by cases q9.1) (fun v9 h9 q9 => ?_)
  obtain ⟨e9, rfl⟩ := q9
  cases e9
  show AW G mL_law (d + 80) mc ms Q 1022 [(0, .ref G.2.2.2.2.1), (1, .ref (ad (0, 0))), (2, .ref (A 0)), (3, .ref ou), (4, .ref od), (5, .int (nI i)), (6, .int (nI (po_number σ).1.1)), (7, .int b)] [.int (R'.1 0)] (rw_O (A, ad, S') R' h') (cn + 1 + 0) (sn + 6 + 0)
  rw [a3]
  refine ax_iload dL_law_1022 rfl ?_
  refine ax_icmp_eq (tgt := 1029) dL_law_1024 (by decide) (fun _ => ?_) (fun z => absurd rfl z)
  refine ax_iload dL_law_1029 rfl ?_
  have hfin : AW G mL_law (d + 80) mc ms Q 1046 [(0, .ref G.2.2.2.2.1), (1, .ref (ad (0, 0))), (2, .ref (A 0)), (3, .ref ou), (4, .ref od), (5, .int (nI i)), (6, .int (nI (po_number σ).1.1)), (7, .int b)] [] (rw_O (A, ad, S') R' h') (cn + 1 + 0) (sn + 6 + 0) := by
    refine ax_goto (tgt := 1391) dL_law_1046 (by decide) ?_
    exact ax_sub (fun q hq => List.mem_append_left [(6, Value.int (nI (po_number σ).1.1)), (7, Value.int b)] hq) (kk S' R' h' (LI_nx hL hC' a2 ⟨f', h1o⟩ ⟨g, h1d⟩ a1))
  by_cases z0 : (po_number σ).1.1 = 0
  · refine ax_if_ne (tgt := 1046) dL_law_1031 (by decide) (fun z => absurd (by rw [z0]; rfl) z) (fun _ => ?_)
    refine ax_aload_n dL_law_1034 rfl ?_
    refine ax_iconst (v := 0) dL_law_1035 (by decide) ?_
    refine ax_lald dL_law_1036 (rw_rd (A := (A, ad, S')) ⟨a1 _ _ h1o, l7⟩) (by unfold vp_in; decide) ?_
    rw [show f' (0 : Int32).toNatClampNeg = ((po_number σ).1.2.toInt64) from hV z0]
    refine ax_iload dL_law_1037 rfl ?_
    rw [a4 z0] at hfin ⊢
    refine ax_i2l dL_law_1039 ?_
    refine ax_lcmp dL_law_1040 ?_
    rw [lg_cmp0]
    exact ax_if_eq (tgt := 1046) dL_law_1041 (by decide) (fun _ => hfin) (fun z => absurd rfl z)
  · exact ax_if_ne (tgt := 1046) dL_law_1031 (by decide) (fun _ => hfin) (fun z => absurd z (il_ne _ 0 z0 rfl rfl (by have := pl_number σ ; omega) (by decide)))
set_option maxRecDepth 100000 in
set_option maxHeartbeats 4000000 in
theorem lc_height (d : Nat) {mc ms cn sn i ou od : Nat} {A : Nat → Nat} {ad : cs_K → Nat} {S : cs_S} {R : rw_S} {h : ax_H} {σ : sp_St} (hL : LI A ad S R h σ ou od) (hi : i + 6 ≤ G.2.2.2.2.2.1) (hN : G.2.2.2.2.2.1 ≤ 3072) (hcn : cn + 1 + 0 ≤ mc) (hsn : sn + 6 + 0 ≤ ms) {Q : ax_P} (kk : ∀ S' R' h', LI A ad S' R' h' (po_height σ).2 ou od → AW G mL_law (d + 80) mc ms Q 1391 [(0, .ref G.2.2.2.2.1), (1, .ref (ad (0, 0))), (2, .ref (A 0)), (3, .ref ou), (4, .ref od), (5, .int (nI i))] [] (rw_O (A, ad, S') R' h') (cn + 1 + 0) (sn + 6 + 0)) : AW G mL_law (d + 80) mc ms Q 1049 [(0, .ref G.2.2.2.2.1), (1, .ref (ad (0, 0))), (2, .ref (A 0)), (3, .ref ou), (4, .ref od), (5, .int (nI i))] [] (rw_O (A, ad, S) R h) cn sn := by
  have hne := LI_ne hL
  obtain ⟨l1, l2, l3, l4, l5, ⟨f, hf⟩, l7, ⟨g, hg⟩, l9⟩ := id hL
  refine ax_aload_n dL_law_1049 rfl ?_
  refine ax_aload_n dL_law_1050 rfl ?_
  refine ax_eqh (rw_sw l3) ?_
  refine ax_callH (av := [.ref (ad (0, 0)), .ref ou]) (rest := []) (mc' := 1) (ms' := 6) dL_law_1051 rfl lkL_147 rfl (Nat.le_of_ble_eq_true rfl) (Nat.le_of_ble_eq_true rfl) (by omega) (by omega) (lh_height l2 (d + 62) S (ax_w h (rw_l (A, ad, S) R)) l4  (rw_rou l3 l7 hf) (Q := fun r h9 => r = .inl (some (.int (nI (po_height σ).1.1))) ∧ ∃ S' f', CI (po_height σ).2 S' ∧ h9 = va_up (cs_O ad S' (ax_w h (rw_l (A, ad, S) R))) ou (some (.inl (1, 1, .inr (.inl f')))) ∧ ((po_height σ).1.1 = 0 → f' 0 = ((po_height σ).1.2.toInt64))) (fun S' c z => ⟨by rw [z]; rfl, S', _, c, rfl, fun _ => if_pos rfl⟩) (fun S' c z => ⟨rfl, S', f, c, (va_up_id (rw_rou l3 l7 hf S')).symm, fun w => absurd w z⟩)) (fun E9 h9 q9 => by cases q9.1) (fun v9 h9 q9 => ?_)
  obtain ⟨e9, S', f', hC', rfl, hV⟩ := q9
  cases e9
  refine ax_eqh (rw_lou l3 l7 S' _) ?_
  obtain ⟨h1, hh1⟩ : ∃ h1, h1 = va_up h ou (some (.inl (1, 1, .inr (.inl f')))) := ⟨_, rfl⟩
  rw [← hh1]
  have h1o : h1 ou = some (.inl (1, 1, .inr (.inl f'))) := by rw [hh1, ax_up_s]
  have h1d : h1 od = some (.inl (2, 1, .inr (.inr (.inr (.inl g))))) := by rw [hh1, ax_up_n (Ne.symm hne)]; exact hg
  have hR1 : RI (A, ad, S') σ R h1 := by rw [hh1]; exact RI_ou (fun n f0 e => by rw [hf] at e; cases e) (LI_S l5)
  show AW G mL_law (d + 80) mc ms Q 1054 [(0, .ref G.2.2.2.2.1), (1, .ref (ad (0, 0))), (2, .ref (A 0)), (3, .ref ou), (4, .ref od), (5, .int (nI i))] [.int (nI (po_height σ).1.1)] (rw_O (A, ad, S') R h1) (cn + 1) (sn + 6)
  refine ax_istore dL_law_1054 (by decide) ?_
  refine ax_sub (lv' := [(0, .ref G.2.2.2.2.1), (1, .ref (ad (0, 0))), (2, .ref (A 0)), (3, .ref ou), (4, .ref od), (5, .int (nI i)), (6, .int (nI (po_height σ).1.1))]) (fun _ z => z) ?_
  refine ax_aload_n dL_law_1056 rfl ?_
  refine ax_callV (b := A 0) (av := []) (rest := []) (mc' := 0) (ms' := 0) dL_law_1057 rfl lkL_149 (rw_g0 (A := (A, ad, S')) l1) rfl (Nat.le_of_ble_eq_true rfl) (Nat.le_of_ble_eq_true rfl) (by omega) (by omega) (rb_height (A := (A, ad, S')) l1 (d + 31) R h1 hR1 ) (fun E9 h9 q9 => by obtain ⟨_, _, _, e9, _⟩ := q9; cases e9) (fun v9 h9 q9 => ?_)
  obtain ⟨R', h', b, e9, rfl, a1, a2, a3, a4⟩ := q9
  cases e9
  show AW G mL_law (d + 80) mc ms Q 1060 [(0, .ref G.2.2.2.2.1), (1, .ref (ad (0, 0))), (2, .ref (A 0)), (3, .ref ou), (4, .ref od), (5, .int (nI i)), (6, .int (nI (po_height σ).1.1))] [.int b] (rw_O (A, ad, S') R' h') (cn + 1 + 0) (sn + 6 + 0)
  refine ax_istore dL_law_1060 (by decide) ?_
  refine ax_sub (lv' := [(0, .ref G.2.2.2.2.1), (1, .ref (ad (0, 0))), (2, .ref (A 0)), (3, .ref ou), (4, .ref od), (5, .int (nI i)), (6, .int (nI (po_height σ).1.1)), (7, .int b)]) (fun _ z => z) ?_
  refine ax_aload_n dL_law_1062 rfl ?_
  refine ax_callV (b := A 0) (av := []) (rest := []) (mc' := 0) (ms' := 0) dL_law_1063 rfl lkL_93 (rw_g0 (A := (A, ad, S')) l1) rfl (Nat.le_of_ble_eq_true rfl) (Nat.le_of_ble_eq_true rfl) (by omega) (by omega) (r_thrown (A := (A, ad, S')) l1 (d + 79) R' h') (fun E9 h9 q9 => by cases q9.1) (fun v9 h9 q9 => ?_)
  obtain ⟨e9, rfl⟩ := q9
  cases e9
  show AW G mL_law (d + 80) mc ms Q 1066 [(0, .ref G.2.2.2.2.1), (1, .ref (ad (0, 0))), (2, .ref (A 0)), (3, .ref ou), (4, .ref od), (5, .int (nI i)), (6, .int (nI (po_height σ).1.1)), (7, .int b)] [.int (R'.1 0)] (rw_O (A, ad, S') R' h') (cn + 1 + 0) (sn + 6 + 0)
  rw [a3]
  refine ax_iload dL_law_1066 rfl ?_
  refine ax_icmp_eq (tgt := 1073) dL_law_1068 (by decide) (fun _ => ?_) (fun z => absurd rfl z)
  refine ax_iload dL_law_1073 rfl ?_
  have hfin : AW G mL_law (d + 80) mc ms Q 1090 [(0, .ref G.2.2.2.2.1), (1, .ref (ad (0, 0))), (2, .ref (A 0)), (3, .ref ou), (4, .ref od), (5, .int (nI i)), (6, .int (nI (po_height σ).1.1)), (7, .int b)] [] (rw_O (A, ad, S') R' h') (cn + 1 + 0) (sn + 6 + 0) := by
    refine ax_goto (tgt := 1391) dL_law_1090 (by decide) ?_
    exact ax_sub (fun q hq => List.mem_append_left [(6, Value.int (nI (po_height σ).1.1)), (7, Value.int b)] hq) (kk S' R' h' (LI_nx hL hC' a2 ⟨f', h1o⟩ ⟨g, h1d⟩ a1))
  by_cases z0 : (po_height σ).1.1 = 0
  · refine ax_if_ne (tgt := 1090) dL_law_1075 (by decide) (fun z => absurd (by rw [z0]; rfl) z) (fun _ => ?_)
    refine ax_aload_n dL_law_1078 rfl ?_
    refine ax_iconst (v := 0) dL_law_1079 (by decide) ?_
    refine ax_lald dL_law_1080 (rw_rd (A := (A, ad, S')) ⟨a1 _ _ h1o, l7⟩) (by unfold vp_in; decide) ?_
    rw [show f' (0 : Int32).toNatClampNeg = ((po_height σ).1.2.toInt64) from hV z0]
    refine ax_iload dL_law_1081 rfl ?_
    rw [a4 z0] at hfin ⊢
    refine ax_i2l dL_law_1083 ?_
    refine ax_lcmp dL_law_1084 ?_
    rw [lg_cmp0]
    exact ax_if_eq (tgt := 1090) dL_law_1085 (by decide) (fun _ => hfin) (fun z => absurd rfl z)
  · exact ax_if_ne (tgt := 1090) dL_law_1075 (by decide) (fun _ => hfin) (fun z => absurd z (il_ne _ 0 z0 rfl rfl (by have := pl_height σ ; omega) (by decide)))
set_option maxRecDepth 100000 in
set_option maxHeartbeats 4000000 in
theorem lc_holds (d : Nat) {mc ms cn sn i ou od : Nat} {A : Nat → Nat} {ad : cs_K → Nat} {S : cs_S} {R : rw_S} {h : ax_H} {σ : sp_St} (hL : LI A ad S R h σ ou od) (hi : i + 6 ≤ G.2.2.2.2.2.1) (hN : G.2.2.2.2.2.1 ≤ 3072) (hcn : cn + 1 + 0 ≤ mc) (hsn : sn + 6 + 0 ≤ ms) {Q : ax_P} (kk : ∀ S' R' h', LI A ad S' R' h' (po_holds σ (G.2.2.2.2.2.2 (i + 1))).2 ou od → AW G mL_law (d + 80) mc ms Q 1391 [(0, .ref G.2.2.2.2.1), (1, .ref (ad (0, 0))), (2, .ref (A 0)), (3, .ref ou), (4, .ref od), (5, .int (nI i))] [] (rw_O (A, ad, S') R' h') (cn + 1 + 0) (sn + 6 + 0)) : AW G mL_law (d + 80) mc ms Q 1158 [(0, .ref G.2.2.2.2.1), (1, .ref (ad (0, 0))), (2, .ref (A 0)), (3, .ref ou), (4, .ref od), (5, .int (nI i))] [] (rw_O (A, ad, S) R h) cn sn := by
  have hne := LI_ne hL
  obtain ⟨l1, l2, l3, l4, l5, ⟨f, hf⟩, l7, ⟨g, hg⟩, l9⟩ := id hL
  refine ax_aload_n dL_law_1158 rfl ?_
  refine ax_aload_n dL_law_1159 rfl ?_
  refine ax_iload dL_law_1160 rfl ?_
  refine ax_iconst (v := 1) dL_law_1162 (by decide) ?_
  refine ax_iadd dL_law_1163 ?_
  refine ax_top (y := nI (i + 1)) (nI_add i 1) ?_
  refine ax_sld dL_law_1164 (nI_in (by omega) (by omega)) ?_
  refine ax_top (y := (G.2.2.2.2.2.2 (i + 1))) (by rw [nI_clamp (by omega)]) ?_
  refine ax_aload_n dL_law_1165 rfl ?_
  refine ax_eqh (rw_sw l3) ?_
  refine ax_callH (av := [.ref (ad (0, 0)), .int (G.2.2.2.2.2.2 (i + 1)), .ref ou]) (rest := []) (mc' := 1) (ms' := 6) dL_law_1166 rfl lkL_154 rfl (Nat.le_of_ble_eq_true rfl) (Nat.le_of_ble_eq_true rfl) (by omega) (by omega) (lh_holds l2 (d + 62) S (ax_w h (rw_l (A, ad, S) R)) l4 (G.2.2.2.2.2.2 (i + 1)) (rw_rou l3 l7 hf) (Q := fun r h9 => r = .inl (some (.int (nI (po_holds σ (G.2.2.2.2.2.2 (i + 1))).1.1))) ∧ ∃ S' f', CI (po_holds σ (G.2.2.2.2.2.2 (i + 1))).2 S' ∧ h9 = va_up (cs_O ad S' (ax_w h (rw_l (A, ad, S) R))) ou (some (.inl (1, 1, .inr (.inl f')))) ∧ ((po_holds σ (G.2.2.2.2.2.2 (i + 1))).1.1 = 0 → f' 0 = (if (po_holds σ (G.2.2.2.2.2.2 (i + 1))).1.2 = 0 then 0 else 1))) (fun S' c z => ⟨by rw [z]; rfl, S', _, c, rfl, fun _ => if_pos rfl⟩) (fun S' c z => ⟨rfl, S', f, c, (va_up_id (rw_rou l3 l7 hf S')).symm, fun w => absurd w z⟩)) (fun E9 h9 q9 => by cases q9.1) (fun v9 h9 q9 => ?_)
  obtain ⟨e9, S', f', hC', rfl, hV⟩ := q9
  cases e9
  refine ax_eqh (rw_lou l3 l7 S' _) ?_
  obtain ⟨h1, hh1⟩ : ∃ h1, h1 = va_up h ou (some (.inl (1, 1, .inr (.inl f')))) := ⟨_, rfl⟩
  rw [← hh1]
  have h1o : h1 ou = some (.inl (1, 1, .inr (.inl f'))) := by rw [hh1, ax_up_s]
  have h1d : h1 od = some (.inl (2, 1, .inr (.inr (.inr (.inl g))))) := by rw [hh1, ax_up_n (Ne.symm hne)]; exact hg
  have hR1 : RI (A, ad, S') σ R h1 := by rw [hh1]; exact RI_ou (fun n f0 e => by rw [hf] at e; cases e) (LI_S l5)
  show AW G mL_law (d + 80) mc ms Q 1169 [(0, .ref G.2.2.2.2.1), (1, .ref (ad (0, 0))), (2, .ref (A 0)), (3, .ref ou), (4, .ref od), (5, .int (nI i))] [.int (nI (po_holds σ (G.2.2.2.2.2.2 (i + 1))).1.1)] (rw_O (A, ad, S') R h1) (cn + 1) (sn + 6)
  refine ax_istore dL_law_1169 (by decide) ?_
  refine ax_sub (lv' := [(0, .ref G.2.2.2.2.1), (1, .ref (ad (0, 0))), (2, .ref (A 0)), (3, .ref ou), (4, .ref od), (5, .int (nI i)), (6, .int (nI (po_holds σ (G.2.2.2.2.2.2 (i + 1))).1.1))]) (fun _ z => z) ?_
  refine ax_aload_n dL_law_1171 rfl ?_
  refine ax_aload_n dL_law_1172 rfl ?_
  refine ax_iload dL_law_1173 rfl ?_
  refine ax_iconst (v := 1) dL_law_1175 (by decide) ?_
  refine ax_iadd dL_law_1176 ?_
  refine ax_top (y := nI (i + 1)) (nI_add i 1) ?_
  refine ax_sld dL_law_1177 (nI_in (by omega) (by omega)) ?_
  refine ax_top (y := (G.2.2.2.2.2.2 (i + 1))) (by rw [nI_clamp (by omega)]) ?_
  refine ax_callV (b := A 0) (av := [.int (G.2.2.2.2.2.2 (i + 1))]) (rest := []) (mc' := 0) (ms' := 0) dL_law_1178 rfl lkL_156 (rw_g0 (A := (A, ad, S')) l1) rfl (Nat.le_of_ble_eq_true rfl) (Nat.le_of_ble_eq_true rfl) (by omega) (by omega) (rb_holds (A := (A, ad, S')) l1 (d + 31) R h1 hR1 (G.2.2.2.2.2.2 (i + 1))) (fun E9 h9 q9 => by obtain ⟨_, _, _, e9, _⟩ := q9; cases e9) (fun v9 h9 q9 => ?_)
  obtain ⟨R', h', b, e9, rfl, a1, a2, a3, a4⟩ := q9
  cases e9
  show AW G mL_law (d + 80) mc ms Q 1181 [(0, .ref G.2.2.2.2.1), (1, .ref (ad (0, 0))), (2, .ref (A 0)), (3, .ref ou), (4, .ref od), (5, .int (nI i)), (6, .int (nI (po_holds σ (G.2.2.2.2.2.2 (i + 1))).1.1))] [.int b] (rw_O (A, ad, S') R' h') (cn + 1 + 0) (sn + 6 + 0)
  refine ax_istore dL_law_1181 (by decide) ?_
  refine ax_sub (lv' := [(0, .ref G.2.2.2.2.1), (1, .ref (ad (0, 0))), (2, .ref (A 0)), (3, .ref ou), (4, .ref od), (5, .int (nI i)), (6, .int (nI (po_holds σ (G.2.2.2.2.2.2 (i + 1))).1.1)), (7, .int b)]) (fun _ z => z) ?_
  refine ax_aload_n dL_law_1183 rfl ?_
  refine ax_callV (b := A 0) (av := []) (rest := []) (mc' := 0) (ms' := 0) dL_law_1184 rfl lkL_93 (rw_g0 (A := (A, ad, S')) l1) rfl (Nat.le_of_ble_eq_true rfl) (Nat.le_of_ble_eq_true rfl) (by omega) (by omega) (r_thrown (A := (A, ad, S')) l1 (d + 79) R' h') (fun E9 h9 q9 => by cases q9.1) (fun v9 h9 q9 => ?_)
  obtain ⟨e9, rfl⟩ := q9
  cases e9
  show AW G mL_law (d + 80) mc ms Q 1187 [(0, .ref G.2.2.2.2.1), (1, .ref (ad (0, 0))), (2, .ref (A 0)), (3, .ref ou), (4, .ref od), (5, .int (nI i)), (6, .int (nI (po_holds σ (G.2.2.2.2.2.2 (i + 1))).1.1)), (7, .int b)] [.int (R'.1 0)] (rw_O (A, ad, S') R' h') (cn + 1 + 0) (sn + 6 + 0)
  rw [a3]
  refine ax_iload dL_law_1187 rfl ?_
  refine ax_icmp_eq (tgt := 1194) dL_law_1189 (by decide) (fun _ => ?_) (fun z => absurd rfl z)
  refine ax_iload dL_law_1194 rfl ?_
  have hfin : AW G mL_law (d + 80) mc ms Q 1218 [(0, .ref G.2.2.2.2.1), (1, .ref (ad (0, 0))), (2, .ref (A 0)), (3, .ref ou), (4, .ref od), (5, .int (nI i)), (6, .int (nI (po_holds σ (G.2.2.2.2.2.2 (i + 1))).1.1)), (7, .int b)] [] (rw_O (A, ad, S') R' h') (cn + 1 + 0) (sn + 6 + 0) := by
    refine ax_goto (tgt := 1391) dL_law_1218 (by decide) ?_
    exact ax_sub (fun q hq => List.mem_append_left [(6, Value.int (nI (po_holds σ (G.2.2.2.2.2.2 (i + 1))).1.1)), (7, Value.int b)] hq) (kk S' R' h' (LI_nx hL hC' a2 ⟨f', h1o⟩ ⟨g, h1d⟩ a1))
  by_cases z0 : (po_holds σ (G.2.2.2.2.2.2 (i + 1))).1.1 = 0
  · refine ax_if_ne (tgt := 1218) dL_law_1196 (by decide) (fun z => absurd (by rw [z0]; rfl) z) (fun _ => ?_)
    refine ax_aload_n dL_law_1199 rfl ?_
    refine ax_iconst (v := 0) dL_law_1200 (by decide) ?_
    refine ax_lald dL_law_1201 (rw_rd (A := (A, ad, S')) ⟨a1 _ _ h1o, l7⟩) (by unfold vp_in; decide) ?_
    rw [show f' (0 : Int32).toNatClampNeg = (if (po_holds σ (G.2.2.2.2.2.2 (i + 1))).1.2 = 0 then 0 else 1) from hV z0]
    refine ax_iload dL_law_1202 rfl ?_
    rw [a4 z0] at hfin ⊢
    refine ax_if_eq (tgt := 1211) dL_law_1204 (by decide) (fun b0 => ?_) (fun b0 => ?_)
    · refine ax_lconst (v := 0) dL_law_1211 (by decide) ?_
      rw [if_pos b0]
      refine ax_lcmp dL_law_1212 ?_
      rw [lg_cmp0]
      exact ax_if_eq (tgt := 1218) dL_law_1213 (by decide) (fun _ => hfin) (fun z => absurd rfl z)
    · refine ax_lconst (v := 1) dL_law_1207 (by decide) ?_
      refine ax_goto (tgt := 1212) dL_law_1208 (by decide) ?_
      rw [if_neg b0]
      refine ax_lcmp dL_law_1212 ?_
      rw [lg_cmp0]
      exact ax_if_eq (tgt := 1218) dL_law_1213 (by decide) (fun _ => hfin) (fun z => absurd rfl z)
  · exact ax_if_ne (tgt := 1218) dL_law_1196 (by decide) (fun _ => hfin) (fun z => absurd z (il_ne _ 0 z0 rfl rfl (by have := pl_holds σ (G.2.2.2.2.2.2 (i + 1)); omega) (by decide)))
set_option maxRecDepth 100000 in
set_option maxHeartbeats 4000000 in
theorem lc_redCount (d : Nat) {mc ms cn sn i ou od : Nat} {A : Nat → Nat} {ad : cs_K → Nat} {S : cs_S} {R : rw_S} {h : ax_H} {σ : sp_St} (hL : LI A ad S R h σ ou od) (hi : i + 6 ≤ G.2.2.2.2.2.1) (hN : G.2.2.2.2.2.1 ≤ 3072) (hcn : cn + 1 + (lw_fC σ) ≤ mc) (hsn : sn + 6 + (lw_fS σ) ≤ ms) {Q : ax_P} (kk : ∀ S' R' h', LI A ad S' R' h' (po_redCount σ).2 ou od → AW G mL_law (d + 80) mc ms Q 1391 [(0, .ref G.2.2.2.2.1), (1, .ref (ad (0, 0))), (2, .ref (A 0)), (3, .ref ou), (4, .ref od), (5, .int (nI i))] [] (rw_O (A, ad, S') R' h') (cn + 1 + (lw_fC σ)) (sn + 6 + (lw_fS σ))) : AW G mL_law (d + 80) mc ms Q 1221 [(0, .ref G.2.2.2.2.1), (1, .ref (ad (0, 0))), (2, .ref (A 0)), (3, .ref ou), (4, .ref od), (5, .int (nI i))] [] (rw_O (A, ad, S) R h) cn sn := by
  have hne := LI_ne hL
  obtain ⟨l1, l2, l3, l4, l5, ⟨f, hf⟩, l7, ⟨g, hg⟩, l9⟩ := id hL
  refine ax_aload_n dL_law_1221 rfl ?_
  refine ax_aload_n dL_law_1222 rfl ?_
  refine ax_eqh (rw_sw l3) ?_
  refine ax_callH (av := [.ref (ad (0, 0)), .ref ou]) (rest := []) (mc' := 1) (ms' := 6) dL_law_1223 rfl lkL_157 rfl (Nat.le_of_ble_eq_true rfl) (Nat.le_of_ble_eq_true rfl) (by omega) (by omega) (lh_redCount l2 (d + 62) S (ax_w h (rw_l (A, ad, S) R)) l4  (rw_rou l3 l7 hf) (Q := fun r h9 => r = .inl (some (.int (nI (po_redCount σ).1.1))) ∧ ∃ S' f', CI (po_redCount σ).2 S' ∧ h9 = va_up (cs_O ad S' (ax_w h (rw_l (A, ad, S) R))) ou (some (.inl (1, 1, .inr (.inl f')))) ∧ ((po_redCount σ).1.1 = 0 → f' 0 = ((po_redCount σ).1.2.toInt64))) (fun S' c z => ⟨by rw [z]; rfl, S', _, c, rfl, fun _ => if_pos rfl⟩) (fun S' c z => ⟨rfl, S', f, c, (va_up_id (rw_rou l3 l7 hf S')).symm, fun w => absurd w z⟩)) (fun E9 h9 q9 => by cases q9.1) (fun v9 h9 q9 => ?_)
  obtain ⟨e9, S', f', hC', rfl, hV⟩ := q9
  cases e9
  refine ax_eqh (rw_lou l3 l7 S' _) ?_
  obtain ⟨h1, hh1⟩ : ∃ h1, h1 = va_up h ou (some (.inl (1, 1, .inr (.inl f')))) := ⟨_, rfl⟩
  rw [← hh1]
  have h1o : h1 ou = some (.inl (1, 1, .inr (.inl f'))) := by rw [hh1, ax_up_s]
  have h1d : h1 od = some (.inl (2, 1, .inr (.inr (.inr (.inl g))))) := by rw [hh1, ax_up_n (Ne.symm hne)]; exact hg
  have hR1 : RI (A, ad, S') σ R h1 := by rw [hh1]; exact RI_ou (fun n f0 e => by rw [hf] at e; cases e) (LI_S l5)
  show AW G mL_law (d + 80) mc ms Q 1226 [(0, .ref G.2.2.2.2.1), (1, .ref (ad (0, 0))), (2, .ref (A 0)), (3, .ref ou), (4, .ref od), (5, .int (nI i))] [.int (nI (po_redCount σ).1.1)] (rw_O (A, ad, S') R h1) (cn + 1) (sn + 6)
  refine ax_istore dL_law_1226 (by decide) ?_
  refine ax_sub (lv' := [(0, .ref G.2.2.2.2.1), (1, .ref (ad (0, 0))), (2, .ref (A 0)), (3, .ref ou), (4, .ref od), (5, .int (nI i)), (6, .int (nI (po_redCount σ).1.1))]) (fun _ z => z) ?_
  refine ax_aload_n dL_law_1228 rfl ?_
  refine ax_callV (b := A 0) (av := []) (rest := []) (mc' := (lw_fC σ)) (ms' := (lw_fS σ)) dL_law_1229 rfl lkL_159 (rw_g0 (A := (A, ad, S')) l1) rfl (Nat.le_of_ble_eq_true rfl) (Nat.le_of_ble_eq_true rfl) (by omega) (by omega) (rb_redCount (A := (A, ad, S')) l1 (d + 31) R h1 hR1 (tb_gd hR1.1) (lw_fL σ)) (fun E9 h9 q9 => by obtain ⟨_, _, _, e9, _⟩ := q9; cases e9) (fun v9 h9 q9 => ?_)
  obtain ⟨R', h', b, e9, rfl, a1, a2, a3, a4⟩ := q9
  cases e9
  show AW G mL_law (d + 80) mc ms Q 1232 [(0, .ref G.2.2.2.2.1), (1, .ref (ad (0, 0))), (2, .ref (A 0)), (3, .ref ou), (4, .ref od), (5, .int (nI i)), (6, .int (nI (po_redCount σ).1.1))] [.int b] (rw_O (A, ad, S') R' h') (cn + 1 + (lw_fC σ)) (sn + 6 + (lw_fS σ))
  refine ax_istore dL_law_1232 (by decide) ?_
  refine ax_sub (lv' := [(0, .ref G.2.2.2.2.1), (1, .ref (ad (0, 0))), (2, .ref (A 0)), (3, .ref ou), (4, .ref od), (5, .int (nI i)), (6, .int (nI (po_redCount σ).1.1)), (7, .int b)]) (fun _ z => z) ?_
  refine ax_aload_n dL_law_1234 rfl ?_
  refine ax_callV (b := A 0) (av := []) (rest := []) (mc' := 0) (ms' := 0) dL_law_1235 rfl lkL_93 (rw_g0 (A := (A, ad, S')) l1) rfl (Nat.le_of_ble_eq_true rfl) (Nat.le_of_ble_eq_true rfl) (by omega) (by omega) (r_thrown (A := (A, ad, S')) l1 (d + 79) R' h') (fun E9 h9 q9 => by cases q9.1) (fun v9 h9 q9 => ?_)
  obtain ⟨e9, rfl⟩ := q9
  cases e9
  show AW G mL_law (d + 80) mc ms Q 1238 [(0, .ref G.2.2.2.2.1), (1, .ref (ad (0, 0))), (2, .ref (A 0)), (3, .ref ou), (4, .ref od), (5, .int (nI i)), (6, .int (nI (po_redCount σ).1.1)), (7, .int b)] [.int (R'.1 0)] (rw_O (A, ad, S') R' h') (cn + 1 + (lw_fC σ)) (sn + 6 + (lw_fS σ))
  rw [a3]
  refine ax_iload dL_law_1238 rfl ?_
  refine ax_icmp_eq (tgt := 1245) dL_law_1240 (by decide) (fun _ => ?_) (fun z => absurd rfl z)
  refine ax_iload dL_law_1245 rfl ?_
  have hfin : AW G mL_law (d + 80) mc ms Q 1262 [(0, .ref G.2.2.2.2.1), (1, .ref (ad (0, 0))), (2, .ref (A 0)), (3, .ref ou), (4, .ref od), (5, .int (nI i)), (6, .int (nI (po_redCount σ).1.1)), (7, .int b)] [] (rw_O (A, ad, S') R' h') (cn + 1 + (lw_fC σ)) (sn + 6 + (lw_fS σ)) := by
    refine ax_goto (tgt := 1391) dL_law_1262 (by decide) ?_
    exact ax_sub (fun q hq => List.mem_append_left [(6, Value.int (nI (po_redCount σ).1.1)), (7, Value.int b)] hq) (kk S' R' h' (LI_nx hL hC' a2 ⟨f', h1o⟩ ⟨g, h1d⟩ a1))
  by_cases z0 : (po_redCount σ).1.1 = 0
  · refine ax_if_ne (tgt := 1262) dL_law_1247 (by decide) (fun z => absurd (by rw [z0]; rfl) z) (fun _ => ?_)
    refine ax_aload_n dL_law_1250 rfl ?_
    refine ax_iconst (v := 0) dL_law_1251 (by decide) ?_
    refine ax_lald dL_law_1252 (rw_rd (A := (A, ad, S')) ⟨a1 _ _ h1o, l7⟩) (by unfold vp_in; decide) ?_
    rw [show f' (0 : Int32).toNatClampNeg = ((po_redCount σ).1.2.toInt64) from hV z0]
    refine ax_iload dL_law_1253 rfl ?_
    rw [a4 z0] at hfin ⊢
    refine ax_i2l dL_law_1255 ?_
    refine ax_lcmp dL_law_1256 ?_
    rw [lg_cmp0]
    exact ax_if_eq (tgt := 1262) dL_law_1257 (by decide) (fun _ => hfin) (fun z => absurd rfl z)
  · exact ax_if_ne (tgt := 1262) dL_law_1247 (by decide) (fun _ => hfin) (fun z => absurd z (il_ne _ 0 z0 rfl rfl (by have := pl_redCount σ ; omega) (by decide)))
set_option maxRecDepth 100000 in
set_option maxHeartbeats 4000000 in
theorem lc_reduction (d : Nat) {mc ms cn sn i ou od : Nat} {A : Nat → Nat} {ad : cs_K → Nat} {S : cs_S} {R : rw_S} {h : ax_H} {σ : sp_St} (hL : LI A ad S R h σ ou od) (hi : i + 6 ≤ G.2.2.2.2.2.1) (hN : G.2.2.2.2.2.1 ≤ 3072) (hcn : cn + 1 + (lw_fC σ) ≤ mc) (hsn : sn + 6 + (lw_fS σ) ≤ ms) {Q : ax_P} (kk : ∀ S' R' h', LI A ad S' R' h' (po_reduction σ (G.2.2.2.2.2.2 (i + 1))).2 ou od → AW G mL_law (d + 80) mc ms Q 1391 [(0, .ref G.2.2.2.2.1), (1, .ref (ad (0, 0))), (2, .ref (A 0)), (3, .ref ou), (4, .ref od), (5, .int (nI i))] [] (rw_O (A, ad, S') R' h') (cn + 1 + (lw_fC σ)) (sn + 6 + (lw_fS σ))) : AW G mL_law (d + 80) mc ms Q 1265 [(0, .ref G.2.2.2.2.1), (1, .ref (ad (0, 0))), (2, .ref (A 0)), (3, .ref ou), (4, .ref od), (5, .int (nI i))] [] (rw_O (A, ad, S) R h) cn sn := by
  have hne := LI_ne hL
  obtain ⟨l1, l2, l3, l4, l5, ⟨f, hf⟩, l7, ⟨g, hg⟩, l9⟩ := id hL
  refine ax_aload_n dL_law_1265 rfl ?_
  refine ax_aload_n dL_law_1266 rfl ?_
  refine ax_iload dL_law_1267 rfl ?_
  refine ax_iconst (v := 1) dL_law_1269 (by decide) ?_
  refine ax_iadd dL_law_1270 ?_
  refine ax_top (y := nI (i + 1)) (nI_add i 1) ?_
  refine ax_sld dL_law_1271 (nI_in (by omega) (by omega)) ?_
  refine ax_top (y := (G.2.2.2.2.2.2 (i + 1))) (by rw [nI_clamp (by omega)]) ?_
  refine ax_aload_n dL_law_1272 rfl ?_
  refine ax_eqh (rw_sw l3) ?_
  refine ax_callH (av := [.ref (ad (0, 0)), .int (G.2.2.2.2.2.2 (i + 1)), .ref ou]) (rest := []) (mc' := 1) (ms' := 6) dL_law_1273 rfl lkL_160 rfl (Nat.le_of_ble_eq_true rfl) (Nat.le_of_ble_eq_true rfl) (by omega) (by omega) (lh_reduction l2 (d + 62) S (ax_w h (rw_l (A, ad, S) R)) l4 (G.2.2.2.2.2.2 (i + 1)) (rw_rou l3 l7 hf) (Q := fun r h9 => r = .inl (some (.int (nI (po_reduction σ (G.2.2.2.2.2.2 (i + 1))).1.1))) ∧ ∃ S' f', CI (po_reduction σ (G.2.2.2.2.2.2 (i + 1))).2 S' ∧ h9 = va_up (cs_O ad S' (ax_w h (rw_l (A, ad, S) R))) ou (some (.inl (1, 1, .inr (.inl f')))) ∧ ((po_reduction σ (G.2.2.2.2.2.2 (i + 1))).1.1 = 0 → f' 0 = ((po_reduction σ (G.2.2.2.2.2.2 (i + 1))).1.2.toInt64))) (fun S' c z => ⟨by rw [z]; rfl, S', _, c, rfl, fun _ => if_pos rfl⟩) (fun S' c z => ⟨rfl, S', f, c, (va_up_id (rw_rou l3 l7 hf S')).symm, fun w => absurd w z⟩)) (fun E9 h9 q9 => by cases q9.1) (fun v9 h9 q9 => ?_)
  obtain ⟨e9, S', f', hC', rfl, hV⟩ := q9
  cases e9
  refine ax_eqh (rw_lou l3 l7 S' _) ?_
  obtain ⟨h1, hh1⟩ : ∃ h1, h1 = va_up h ou (some (.inl (1, 1, .inr (.inl f')))) := ⟨_, rfl⟩
  rw [← hh1]
  have h1o : h1 ou = some (.inl (1, 1, .inr (.inl f'))) := by rw [hh1, ax_up_s]
  have h1d : h1 od = some (.inl (2, 1, .inr (.inr (.inr (.inl g))))) := by rw [hh1, ax_up_n (Ne.symm hne)]; exact hg
  have hR1 : RI (A, ad, S') σ R h1 := by rw [hh1]; exact RI_ou (fun n f0 e => by rw [hf] at e; cases e) (LI_S l5)
  show AW G mL_law (d + 80) mc ms Q 1276 [(0, .ref G.2.2.2.2.1), (1, .ref (ad (0, 0))), (2, .ref (A 0)), (3, .ref ou), (4, .ref od), (5, .int (nI i))] [.int (nI (po_reduction σ (G.2.2.2.2.2.2 (i + 1))).1.1)] (rw_O (A, ad, S') R h1) (cn + 1) (sn + 6)
  refine ax_istore dL_law_1276 (by decide) ?_
  refine ax_sub (lv' := [(0, .ref G.2.2.2.2.1), (1, .ref (ad (0, 0))), (2, .ref (A 0)), (3, .ref ou), (4, .ref od), (5, .int (nI i)), (6, .int (nI (po_reduction σ (G.2.2.2.2.2.2 (i + 1))).1.1))]) (fun _ z => z) ?_
  refine ax_aload_n dL_law_1278 rfl ?_
  refine ax_aload_n dL_law_1279 rfl ?_
  refine ax_iload dL_law_1280 rfl ?_
  refine ax_iconst (v := 1) dL_law_1282 (by decide) ?_
  refine ax_iadd dL_law_1283 ?_
  refine ax_top (y := nI (i + 1)) (nI_add i 1) ?_
  refine ax_sld dL_law_1284 (nI_in (by omega) (by omega)) ?_
  refine ax_top (y := (G.2.2.2.2.2.2 (i + 1))) (by rw [nI_clamp (by omega)]) ?_
  refine ax_callV (b := A 0) (av := [.int (G.2.2.2.2.2.2 (i + 1))]) (rest := []) (mc' := (lw_fC σ)) (ms' := (lw_fS σ)) dL_law_1285 rfl lkL_162 (rw_g0 (A := (A, ad, S')) l1) rfl (Nat.le_of_ble_eq_true rfl) (Nat.le_of_ble_eq_true rfl) (by omega) (by omega) (rb_reduction (A := (A, ad, S')) l1 (d + 31) R h1 hR1 (G.2.2.2.2.2.2 (i + 1)) (tb_gd hR1.1) (lw_fL σ)) (fun E9 h9 q9 => by obtain ⟨_, _, _, e9, _⟩ := q9; cases e9) (fun v9 h9 q9 => ?_)
  obtain ⟨R', h', b, e9, rfl, a1, a2, a3, a4⟩ := q9
  cases e9
  show AW G mL_law (d + 80) mc ms Q 1288 [(0, .ref G.2.2.2.2.1), (1, .ref (ad (0, 0))), (2, .ref (A 0)), (3, .ref ou), (4, .ref od), (5, .int (nI i)), (6, .int (nI (po_reduction σ (G.2.2.2.2.2.2 (i + 1))).1.1))] [.int b] (rw_O (A, ad, S') R' h') (cn + 1 + (lw_fC σ)) (sn + 6 + (lw_fS σ))
  refine ax_istore dL_law_1288 (by decide) ?_
  refine ax_sub (lv' := [(0, .ref G.2.2.2.2.1), (1, .ref (ad (0, 0))), (2, .ref (A 0)), (3, .ref ou), (4, .ref od), (5, .int (nI i)), (6, .int (nI (po_reduction σ (G.2.2.2.2.2.2 (i + 1))).1.1)), (7, .int b)]) (fun _ z => z) ?_
  refine ax_aload_n dL_law_1290 rfl ?_
  refine ax_callV (b := A 0) (av := []) (rest := []) (mc' := 0) (ms' := 0) dL_law_1291 rfl lkL_93 (rw_g0 (A := (A, ad, S')) l1) rfl (Nat.le_of_ble_eq_true rfl) (Nat.le_of_ble_eq_true rfl) (by omega) (by omega) (r_thrown (A := (A, ad, S')) l1 (d + 79) R' h') (fun E9 h9 q9 => by cases q9.1) (fun v9 h9 q9 => ?_)
  obtain ⟨e9, rfl⟩ := q9
  cases e9
  show AW G mL_law (d + 80) mc ms Q 1294 [(0, .ref G.2.2.2.2.1), (1, .ref (ad (0, 0))), (2, .ref (A 0)), (3, .ref ou), (4, .ref od), (5, .int (nI i)), (6, .int (nI (po_reduction σ (G.2.2.2.2.2.2 (i + 1))).1.1)), (7, .int b)] [.int (R'.1 0)] (rw_O (A, ad, S') R' h') (cn + 1 + (lw_fC σ)) (sn + 6 + (lw_fS σ))
  rw [a3]
  refine ax_iload dL_law_1294 rfl ?_
  refine ax_icmp_eq (tgt := 1301) dL_law_1296 (by decide) (fun _ => ?_) (fun z => absurd rfl z)
  refine ax_iload dL_law_1301 rfl ?_
  have hfin : AW G mL_law (d + 80) mc ms Q 1318 [(0, .ref G.2.2.2.2.1), (1, .ref (ad (0, 0))), (2, .ref (A 0)), (3, .ref ou), (4, .ref od), (5, .int (nI i)), (6, .int (nI (po_reduction σ (G.2.2.2.2.2.2 (i + 1))).1.1)), (7, .int b)] [] (rw_O (A, ad, S') R' h') (cn + 1 + (lw_fC σ)) (sn + 6 + (lw_fS σ)) := by
    refine ax_goto (tgt := 1391) dL_law_1318 (by decide) ?_
    exact ax_sub (fun q hq => List.mem_append_left [(6, Value.int (nI (po_reduction σ (G.2.2.2.2.2.2 (i + 1))).1.1)), (7, Value.int b)] hq) (kk S' R' h' (LI_nx hL hC' a2 ⟨f', h1o⟩ ⟨g, h1d⟩ a1))
  by_cases z0 : (po_reduction σ (G.2.2.2.2.2.2 (i + 1))).1.1 = 0
  · refine ax_if_ne (tgt := 1318) dL_law_1303 (by decide) (fun z => absurd (by rw [z0]; rfl) z) (fun _ => ?_)
    refine ax_aload_n dL_law_1306 rfl ?_
    refine ax_iconst (v := 0) dL_law_1307 (by decide) ?_
    refine ax_lald dL_law_1308 (rw_rd (A := (A, ad, S')) ⟨a1 _ _ h1o, l7⟩) (by unfold vp_in; decide) ?_
    rw [show f' (0 : Int32).toNatClampNeg = ((po_reduction σ (G.2.2.2.2.2.2 (i + 1))).1.2.toInt64) from hV z0]
    refine ax_iload dL_law_1309 rfl ?_
    rw [a4 z0] at hfin ⊢
    refine ax_i2l dL_law_1311 ?_
    refine ax_lcmp dL_law_1312 ?_
    rw [lg_cmp0]
    exact ax_if_eq (tgt := 1318) dL_law_1313 (by decide) (fun _ => hfin) (fun z => absurd rfl z)
  · exact ax_if_ne (tgt := 1318) dL_law_1303 (by decide) (fun _ => hfin) (fun z => absurd z (il_ne _ 0 z0 rfl rfl (by have := pl_reduction σ (G.2.2.2.2.2.2 (i + 1)); omega) (by decide)))
set_option maxRecDepth 100000 in
set_option maxHeartbeats 4000000 in
theorem lc_reduce (d : Nat) {mc ms cn sn i ou od : Nat} {A : Nat → Nat} {ad : cs_K → Nat} {S : cs_S} {R : rw_S} {h : ax_H} {σ : sp_St} (hL : LI A ad S R h σ ou od) (hi : i + 6 ≤ G.2.2.2.2.2.1) (hN : G.2.2.2.2.2.1 ≤ 3072) (hcn : cn + 1 + (lw_gC σ (G.2.2.2.2.2.2 (i + 1))) ≤ mc) (hsn : sn + 6 + (lw_gS σ (G.2.2.2.2.2.2 (i + 1))) ≤ ms) {Q : ax_P} (kk : ∀ S' R' h', LI A ad S' R' h' (po_reduce σ (G.2.2.2.2.2.2 (i + 1))).2 ou od → AW G mL_law (d + 80) mc ms Q 1391 [(0, .ref G.2.2.2.2.1), (1, .ref (ad (0, 0))), (2, .ref (A 0)), (3, .ref ou), (4, .ref od), (5, .int (nI i))] [] (rw_O (A, ad, S') R' h') (cn + 1 + (lw_gC σ (G.2.2.2.2.2.2 (i + 1)))) (sn + 6 + (lw_gS σ (G.2.2.2.2.2.2 (i + 1))))) : AW G mL_law (d + 80) mc ms Q 1321 [(0, .ref G.2.2.2.2.1), (1, .ref (ad (0, 0))), (2, .ref (A 0)), (3, .ref ou), (4, .ref od), (5, .int (nI i))] [] (rw_O (A, ad, S) R h) cn sn := by
  have hne := LI_ne hL
  obtain ⟨l1, l2, l3, l4, l5, ⟨f, hf⟩, l7, ⟨g, hg⟩, l9⟩ := id hL
  refine ax_aload_n dL_law_1321 rfl ?_
  refine ax_aload_n dL_law_1322 rfl ?_
  refine ax_iload dL_law_1323 rfl ?_
  refine ax_iconst (v := 1) dL_law_1325 (by decide) ?_
  refine ax_iadd dL_law_1326 ?_
  refine ax_top (y := nI (i + 1)) (nI_add i 1) ?_
  refine ax_sld dL_law_1327 (nI_in (by omega) (by omega)) ?_
  refine ax_top (y := (G.2.2.2.2.2.2 (i + 1))) (by rw [nI_clamp (by omega)]) ?_
  refine ax_aload_n dL_law_1328 rfl ?_
  refine ax_eqh (rw_sw l3) ?_
  refine ax_callH (av := [.ref (ad (0, 0)), .int (G.2.2.2.2.2.2 (i + 1)), .ref ou]) (rest := []) (mc' := 1) (ms' := 6) dL_law_1329 rfl lkL_163 rfl (Nat.le_of_ble_eq_true rfl) (Nat.le_of_ble_eq_true rfl) (by omega) (by omega) (lh_reduce l2 (d + 62) S (ax_w h (rw_l (A, ad, S) R)) l4 (G.2.2.2.2.2.2 (i + 1)) (rw_rou l3 l7 hf) (Q := fun r h9 => r = .inl (some (.int (nI (po_reduce σ (G.2.2.2.2.2.2 (i + 1))).1.1))) ∧ ∃ S' f', CI (po_reduce σ (G.2.2.2.2.2.2 (i + 1))).2 S' ∧ h9 = va_up (cs_O ad S' (ax_w h (rw_l (A, ad, S) R))) ou (some (.inl (1, 1, .inr (.inl f')))) ∧ ((po_reduce σ (G.2.2.2.2.2.2 (i + 1))).1.1 = 0 → f' 0 = ((po_reduce σ (G.2.2.2.2.2.2 (i + 1))).1.2.toInt64))) (fun S' c z => ⟨by rw [z]; rfl, S', _, c, rfl, fun _ => if_pos rfl⟩) (fun S' c z => ⟨rfl, S', f, c, (va_up_id (rw_rou l3 l7 hf S')).symm, fun w => absurd w z⟩)) (fun E9 h9 q9 => by cases q9.1) (fun v9 h9 q9 => ?_)
  obtain ⟨e9, S', f', hC', rfl, hV⟩ := q9
  cases e9
  refine ax_eqh (rw_lou l3 l7 S' _) ?_
  obtain ⟨h1, hh1⟩ : ∃ h1, h1 = va_up h ou (some (.inl (1, 1, .inr (.inl f')))) := ⟨_, rfl⟩
  rw [← hh1]
  have h1o : h1 ou = some (.inl (1, 1, .inr (.inl f'))) := by rw [hh1, ax_up_s]
  have h1d : h1 od = some (.inl (2, 1, .inr (.inr (.inr (.inl g))))) := by rw [hh1, ax_up_n (Ne.symm hne)]; exact hg
  have hR1 : RI (A, ad, S') σ R h1 := by rw [hh1]; exact RI_ou (fun n f0 e => by rw [hf] at e; cases e) (LI_S l5)
  show AW G mL_law (d + 80) mc ms Q 1332 [(0, .ref G.2.2.2.2.1), (1, .ref (ad (0, 0))), (2, .ref (A 0)), (3, .ref ou), (4, .ref od), (5, .int (nI i))] [.int (nI (po_reduce σ (G.2.2.2.2.2.2 (i + 1))).1.1)] (rw_O (A, ad, S') R h1) (cn + 1) (sn + 6)
  refine ax_istore dL_law_1332 (by decide) ?_
  refine ax_sub (lv' := [(0, .ref G.2.2.2.2.1), (1, .ref (ad (0, 0))), (2, .ref (A 0)), (3, .ref ou), (4, .ref od), (5, .int (nI i)), (6, .int (nI (po_reduce σ (G.2.2.2.2.2.2 (i + 1))).1.1))]) (fun _ z => z) ?_
  refine ax_aload_n dL_law_1334 rfl ?_
  refine ax_aload_n dL_law_1335 rfl ?_
  refine ax_iload dL_law_1336 rfl ?_
  refine ax_iconst (v := 1) dL_law_1338 (by decide) ?_
  refine ax_iadd dL_law_1339 ?_
  refine ax_top (y := nI (i + 1)) (nI_add i 1) ?_
  refine ax_sld dL_law_1340 (nI_in (by omega) (by omega)) ?_
  refine ax_top (y := (G.2.2.2.2.2.2 (i + 1))) (by rw [nI_clamp (by omega)]) ?_
  refine ax_callV (b := A 0) (av := [.int (G.2.2.2.2.2.2 (i + 1))]) (rest := []) (mc' := (lw_gC σ (G.2.2.2.2.2.2 (i + 1)))) (ms' := (lw_gS σ (G.2.2.2.2.2.2 (i + 1)))) dL_law_1341 rfl lkL_165 (rw_g0 (A := (A, ad, S')) l1) rfl (Nat.le_of_ble_eq_true rfl) (Nat.le_of_ble_eq_true rfl) (by omega) (by omega) (rb_reduce (A := (A, ad, S')) l1 (d + 31) R h1 hR1 (G.2.2.2.2.2.2 (i + 1)) (tb_gd hR1.1) (lw_gL σ (G.2.2.2.2.2.2 (i + 1)))) (fun E9 h9 q9 => by obtain ⟨_, _, _, e9, _⟩ := q9; cases e9) (fun v9 h9 q9 => ?_)
  obtain ⟨R', h', b, e9, rfl, a1, a2, a3, a4⟩ := q9
  cases e9
  show AW G mL_law (d + 80) mc ms Q 1344 [(0, .ref G.2.2.2.2.1), (1, .ref (ad (0, 0))), (2, .ref (A 0)), (3, .ref ou), (4, .ref od), (5, .int (nI i)), (6, .int (nI (po_reduce σ (G.2.2.2.2.2.2 (i + 1))).1.1))] [.int b] (rw_O (A, ad, S') R' h') (cn + 1 + (lw_gC σ (G.2.2.2.2.2.2 (i + 1)))) (sn + 6 + (lw_gS σ (G.2.2.2.2.2.2 (i + 1))))
  refine ax_istore dL_law_1344 (by decide) ?_
  refine ax_sub (lv' := [(0, .ref G.2.2.2.2.1), (1, .ref (ad (0, 0))), (2, .ref (A 0)), (3, .ref ou), (4, .ref od), (5, .int (nI i)), (6, .int (nI (po_reduce σ (G.2.2.2.2.2.2 (i + 1))).1.1)), (7, .int b)]) (fun _ z => z) ?_
  refine ax_aload_n dL_law_1346 rfl ?_
  refine ax_callV (b := A 0) (av := []) (rest := []) (mc' := 0) (ms' := 0) dL_law_1347 rfl lkL_93 (rw_g0 (A := (A, ad, S')) l1) rfl (Nat.le_of_ble_eq_true rfl) (Nat.le_of_ble_eq_true rfl) (by omega) (by omega) (r_thrown (A := (A, ad, S')) l1 (d + 79) R' h') (fun E9 h9 q9 => by cases q9.1) (fun v9 h9 q9 => ?_)
  obtain ⟨e9, rfl⟩ := q9
  cases e9
  show AW G mL_law (d + 80) mc ms Q 1350 [(0, .ref G.2.2.2.2.1), (1, .ref (ad (0, 0))), (2, .ref (A 0)), (3, .ref ou), (4, .ref od), (5, .int (nI i)), (6, .int (nI (po_reduce σ (G.2.2.2.2.2.2 (i + 1))).1.1)), (7, .int b)] [.int (R'.1 0)] (rw_O (A, ad, S') R' h') (cn + 1 + (lw_gC σ (G.2.2.2.2.2.2 (i + 1)))) (sn + 6 + (lw_gS σ (G.2.2.2.2.2.2 (i + 1))))
  rw [a3]
  refine ax_iload dL_law_1350 rfl ?_
  refine ax_icmp_eq (tgt := 1357) dL_law_1352 (by decide) (fun _ => ?_) (fun z => absurd rfl z)
  refine ax_iload dL_law_1357 rfl ?_
  have hfin : AW G mL_law (d + 80) mc ms Q 1374 [(0, .ref G.2.2.2.2.1), (1, .ref (ad (0, 0))), (2, .ref (A 0)), (3, .ref ou), (4, .ref od), (5, .int (nI i)), (6, .int (nI (po_reduce σ (G.2.2.2.2.2.2 (i + 1))).1.1)), (7, .int b)] [] (rw_O (A, ad, S') R' h') (cn + 1 + (lw_gC σ (G.2.2.2.2.2.2 (i + 1)))) (sn + 6 + (lw_gS σ (G.2.2.2.2.2.2 (i + 1)))) := by
    refine ax_goto (tgt := 1391) dL_law_1374 (by decide) ?_
    exact ax_sub (fun q hq => List.mem_append_left [(6, Value.int (nI (po_reduce σ (G.2.2.2.2.2.2 (i + 1))).1.1)), (7, Value.int b)] hq) (kk S' R' h' (LI_nx hL hC' a2 ⟨f', h1o⟩ ⟨g, h1d⟩ a1))
  by_cases z0 : (po_reduce σ (G.2.2.2.2.2.2 (i + 1))).1.1 = 0
  · refine ax_if_ne (tgt := 1374) dL_law_1359 (by decide) (fun z => absurd (by rw [z0]; rfl) z) (fun _ => ?_)
    refine ax_aload_n dL_law_1362 rfl ?_
    refine ax_iconst (v := 0) dL_law_1363 (by decide) ?_
    refine ax_lald dL_law_1364 (rw_rd (A := (A, ad, S')) ⟨a1 _ _ h1o, l7⟩) (by unfold vp_in; decide) ?_
    rw [show f' (0 : Int32).toNatClampNeg = ((po_reduce σ (G.2.2.2.2.2.2 (i + 1))).1.2.toInt64) from hV z0]
    refine ax_iload dL_law_1365 rfl ?_
    rw [a4 z0] at hfin ⊢
    refine ax_i2l dL_law_1367 ?_
    refine ax_lcmp dL_law_1368 ?_
    rw [lg_cmp0]
    exact ax_if_eq (tgt := 1374) dL_law_1369 (by decide) (fun _ => hfin) (fun z => absurd rfl z)
  · exact ax_if_ne (tgt := 1374) dL_law_1359 (by decide) (fun _ => hfin) (fun z => absurd z (il_ne _ 0 z0 rfl rfl (by have := pl_reduce σ (G.2.2.2.2.2.2 (i + 1)); omega) (by decide)))
end LAW2
