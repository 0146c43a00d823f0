/-! ===== the reference: mean ===== -/
section RP9
variable {G : ax_G} {A : rw_Ad}

set_option maxRecDepth 100000 in
set_option maxHeartbeats 4000000 in
theorem mn_i (hA : rw_nd A) (d : Nat) (R : rw_S) (h : ax_H) {b : Nat} {f : Nat → Int32} {L : List Nat} (hb : rw_O A R h b = some (.inl (0, L.length, .inl f))) (hl : L.length ≤ 32) {s m k a : Nat} (hk : k < L.length) (hf : f k = nI a) (ha : a ≤ 5) {Q : ax_P} (kk : AW G mX7_mean (d + 48) 0 0 Q 30 [(0, .ref (A.1 0)), (1, .int (nI (s + a))), (2, .int (nI (m + 1))), (3, .ref b), (4, .int (nI L.length)), (5, .int (nI (k + 1)))] [] (rw_O A R h) 0 0) : AW G mX7_mean (d + 48) 0 0 Q 30 [(0, .ref (A.1 0)), (1, .int (nI s)), (2, .int (nI m)), (3, .ref b), (4, .int (nI L.length)), (5, .int (nI k))] [] (rw_O A R h) 0 0 := by
  refine ax_iload dX7_mean_30 rfl ?_
  refine ax_iload dX7_mean_32 rfl ?_
  refine ax_icmp_ge (tgt := 80) dX7_mean_34 (by decide) (fun z => absurd z (il_nle L.length k hk)) (fun _ => ?_)
  refine ax_aload_n dX7_mean_37 rfl ?_
  refine ax_iload dX7_mean_38 rfl ?_
  refine ax_ialdv (x := (nI a)) dX7_mean_40 hb (nI_in hk (by omega)) (by rw [nI_clamp (by omega)]; exact hf) ?_
  refine ax_istore dX7_mean_41 (by decide) ?_
  refine ax_sub (lv' := [(0, .ref (A.1 0)), (1, .int (nI s)), (2, .int (nI m)), (3, .ref b), (4, .int (nI L.length)), (5, .int (nI k)), (6, .int (nI a))]) (fun _ z => z) ?_
  refine ax_iload_n dX7_mean_43 rfl ?_
  refine ax_iload dX7_mean_44 rfl ?_
  refine ax_bipush (v := 100) dX7_mean_46 (by decide) ?_
  refine ax_icmp_ge (tgt := 56) dX7_mean_48 (by decide) (fun z => absurd z (il_nle 100 a (by omega))) (fun _ => ?_)
  refine ax_iload dX7_mean_51 rfl ?_
  refine ax_goto (tgt := 57) dX7_mean_53 (by decide) ?_
  refine ax_iadd dX7_mean_57 ?_
  refine ax_top (y := (nI (s + a))) (nI_add _ _) ?_
  refine ax_istore_n dX7_mean_58 (by decide) ?_
  refine ax_sub (lv' := [(0, .ref (A.1 0)), (1, .int (nI (s + a))), (2, .int (nI m)), (3, .ref b), (4, .int (nI L.length)), (5, .int (nI k)), (6, .int (nI a))]) (fun _ z => z) ?_
  refine ax_iload_n dX7_mean_59 rfl ?_
  refine ax_iload dX7_mean_60 rfl ?_
  refine ax_bipush (v := 100) dX7_mean_62 (by decide) ?_
  refine ax_icmp_ge (tgt := 71) dX7_mean_64 (by decide) (fun z => absurd z (il_nle 100 a (by omega))) (fun _ => ?_)
  refine ax_iconst (v := 1) dX7_mean_67 (by decide) ?_
  refine ax_goto (tgt := 72) dX7_mean_68 (by decide) ?_
  refine ax_iadd dX7_mean_72 ?_
  refine ax_top (y := (nI (m + 1))) (nI_1 m) ?_
  refine ax_istore_n dX7_mean_73 (by decide) ?_
  refine ax_sub (lv' := [(0, .ref (A.1 0)), (1, .int (nI (s + a))), (2, .int (nI (m + 1))), (3, .ref b), (4, .int (nI L.length)), (5, .int (nI k)), (6, .int (nI a))]) (fun _ z => z) ?_
  refine ax_iinc (v := (nI (k + 1))) dX7_mean_74 rfl (nI_1 k) (by decide) ?_
  refine ax_sub (lv' := [(0, .ref (A.1 0)), (1, .int (nI (s + a))), (2, .int (nI (m + 1))), (3, .ref b), (4, .int (nI L.length)), (5, .int (nI (k + 1))), (6, .int (nI a))]) (fun _ z => z) ?_
  refine ax_goto (tgt := 30) dX7_mean_77 (by decide) ?_
  exact ax_sub (fun q hq => List.mem_append_left [(6, Value.int (nI a))] hq) kk
theorem mn_c (hA : rw_nd A) (d : Nat) (R : rw_S) (h : ax_H) {b : Nat} {f : Nat → Int32} {L : List Nat} (hb : rw_O A R h b = some (.inl (0, L.length, .inl f))) (hl : L.length ≤ 32) {s m k a : Nat} (hk : k < L.length) (hf : f k = nI a) (ha : 100 ≤ a) (ha2 : a ≤ 105) {Q : ax_P} (kk : AW G mX7_mean (d + 48) 0 0 Q 30 [(0, .ref (A.1 0)), (1, .int (nI s)), (2, .int (nI m)), (3, .ref b), (4, .int (nI L.length)), (5, .int (nI (k + 1)))] [] (rw_O A R h) 0 0) : AW G mX7_mean (d + 48) 0 0 Q 30 [(0, .ref (A.1 0)), (1, .int (nI s)), (2, .int (nI m)), (3, .ref b), (4, .int (nI L.length)), (5, .int (nI k))] [] (rw_O A R h) 0 0 := by
  refine ax_iload dX7_mean_30 rfl ?_
  refine ax_iload dX7_mean_32 rfl ?_
  refine ax_icmp_ge (tgt := 80) dX7_mean_34 (by decide) (fun z => absurd z (il_nle L.length k hk)) (fun _ => ?_)
  refine ax_aload_n dX7_mean_37 rfl ?_
  refine ax_iload dX7_mean_38 rfl ?_
  refine ax_ialdv (x := (nI a)) dX7_mean_40 hb (nI_in hk (by omega)) (by rw [nI_clamp (by omega)]; exact hf) ?_
  refine ax_istore dX7_mean_41 (by decide) ?_
  refine ax_sub (lv' := [(0, .ref (A.1 0)), (1, .int (nI s)), (2, .int (nI m)), (3, .ref b), (4, .int (nI L.length)), (5, .int (nI k)), (6, .int (nI a))]) (fun _ z => z) ?_
  refine ax_iload_n dX7_mean_43 rfl ?_
  refine ax_iload dX7_mean_44 rfl ?_
  refine ax_bipush (v := 100) dX7_mean_46 (by decide) ?_
  refine ax_icmp_ge (tgt := 56) dX7_mean_48 (by decide) (fun _ => ?_) (fun z => absurd (il_le 100 a ha) z)
  refine ax_iconst (v := 0) dX7_mean_56 (by decide) ?_
  refine ax_iadd dX7_mean_57 ?_
  refine ax_top (y := (nI s)) (nI_add s 0) ?_
  refine ax_istore_n dX7_mean_58 (by decide) ?_
  refine ax_sub (lv' := [(0, .ref (A.1 0)), (1, .int (nI s)), (2, .int (nI m)), (3, .ref b), (4, .int (nI L.length)), (5, .int (nI k)), (6, .int (nI a))]) (fun _ z => z) ?_
  refine ax_iload_n dX7_mean_59 rfl ?_
  refine ax_iload dX7_mean_60 rfl ?_
  refine ax_bipush (v := 100) dX7_mean_62 (by decide) ?_
  refine ax_icmp_ge (tgt := 71) dX7_mean_64 (by decide) (fun _ => ?_) (fun z => absurd (il_le 100 a ha) z)
  refine ax_iconst (v := 0) dX7_mean_71 (by decide) ?_
  refine ax_iadd dX7_mean_72 ?_
  refine ax_top (y := (nI m)) (nI_add m 0) ?_
  refine ax_istore_n dX7_mean_73 (by decide) ?_
  refine ax_sub (lv' := [(0, .ref (A.1 0)), (1, .int (nI s)), (2, .int (nI m)), (3, .ref b), (4, .int (nI L.length)), (5, .int (nI k)), (6, .int (nI a))]) (fun _ z => z) ?_
  refine ax_iinc (v := (nI (k + 1))) dX7_mean_74 rfl (nI_1 k) (by decide) ?_
  refine ax_sub (lv' := [(0, .ref (A.1 0)), (1, .int (nI s)), (2, .int (nI m)), (3, .ref b), (4, .int (nI L.length)), (5, .int (nI (k + 1))), (6, .int (nI a))]) (fun _ z => z) ?_
  refine ax_goto (tgt := 30) dX7_mean_77 (by decide) ?_
  exact ax_sub (fun q hq => List.mem_append_left [(6, Value.int (nI a))] hq) kk
theorem mn_l (hA : rw_nd A) (d : Nat) (R : rw_S) (h : ax_H) {b : Nat} {f : Nat → Int32} {L : List Nat} (hb : rw_O A R h b = some (.inl (0, L.length, .inl f))) (hl : L.length ≤ 32) (hf : ∀ i x, L[i]? = some x → f i = nI x) (hx : ∀ a ∈ L, a ≤ 5 ∨ (100 ≤ a ∧ a ≤ 105)) {Q : ax_P} (kk : AW G mX7_mean (d + 48) 0 0 Q 30 [(0, .ref (A.1 0)), (1, .int (nI (it_f L).sum)), (2, .int (nI (it_f L).length)), (3, .ref b), (4, .int (nI L.length)), (5, .int (nI L.length))] [] (rw_O A R h) 0 0) : ∀ (i k : Nat), k + i = L.length → AW G mX7_mean (d + 48) 0 0 Q 30 [(0, .ref (A.1 0)), (1, .int (nI (it_f (L.take k)).sum)), (2, .int (nI (it_f (L.take k)).length)), (3, .ref b), (4, .int (nI L.length)), (5, .int (nI k))] [] (rw_O A R h) 0 0 := by
  intro i
  induction i with
  | zero =>
    intro k hk
    have hk : k = L.length := by omega
    subst hk
    rw [List.take_length]; exact kk
  | succ i ih =>
    intro k hk
    have hkl : k < L.length := by omega
    have hi := ih (k + 1) (by omega)
    have hxx : it_f (L.take k ++ [L[k]]) = it_f (L.take k) ++ it_f [L[k]] := List.filter_append _ _
    rw [List.take_succ_eq_append_getElem hkl, hxx] at hi
    rcases hx _ (List.getElem_mem hkl) with z | z
    · have hs : it_f [L[k]] = [L[k]] := List.filter_cons_of_pos (by simp; omega)
      rw [hs, List.sum_append, List.sum_singleton, List.length_append] at hi
      exact mn_i hA d R h hb hl hkl (hf k _ (List.getElem?_eq_getElem hkl)) z hi
    · have hs : it_f [L[k]] = [] := List.filter_cons_of_neg (by simp; omega)
      rw [hs, List.append_nil] at hi
      exact mn_c hA d R h hb hl hkl (hf k _ (List.getElem?_eq_getElem hkl)) z.1 z.2 hi
theorem mn_e (hA : rw_nd A) (d : Nat) (R : rw_S) (h : ax_H) {b : Nat} {f : Nat → Int32} {L : List Nat} (hb : rw_O A R h b = some (.inl (0, L.length, .inl f))) (hl : L.length ≤ 32) {s m : Nat} (hs : s ≤ 120) (hm : m ≤ 24) {Q : ax_P} (hq : Q (.inl (some (.double (if m = 0 then FP.dconst0 else FP.ddiv (FP.i2d (nI s)) (FP.i2d (nI m)))))) (rw_O A R h)) : AW G mX7_mean (d + 48) 0 0 Q 30 [(0, .ref (A.1 0)), (1, .int (nI s)), (2, .int (nI m)), (3, .ref b), (4, .int (nI L.length)), (5, .int (nI L.length))] [] (rw_O A R h) 0 0 := by
  by_cases h0 : m = 0
  · rw [if_pos h0] at hq
    refine ax_iload dX7_mean_30 rfl ?_
    refine ax_iload dX7_mean_32 rfl ?_
    refine ax_icmp_ge (tgt := 80) dX7_mean_34 (by decide) (fun _ => ?_) (fun z => absurd (il_le L.length L.length (Nat.le_refl _)) z)
    refine ax_iload_n dX7_mean_80 rfl ?_
    refine ax_if_ne (tgt := 88) dX7_mean_81 (by decide) (fun z => absurd (by rw [h0]; decide) z) (fun _ => ?_)
    refine ax_dconst0 dX7_mean_84 ?_
    refine ax_goto (tgt := 93) dX7_mean_85 (by decide) ?_
    exact ax_dret (st := []) dX7_mean_93 rfl hq
  · rw [if_neg h0] at hq
    refine ax_iload dX7_mean_30 rfl ?_
    refine ax_iload dX7_mean_32 rfl ?_
    refine ax_icmp_ge (tgt := 80) dX7_mean_34 (by decide) (fun _ => ?_) (fun z => absurd (il_le L.length L.length (Nat.le_refl _)) z)
    refine ax_iload_n dX7_mean_80 rfl ?_
    refine ax_if_ne (tgt := 88) dX7_mean_81 (by decide) (fun _ => ?_) (fun z => absurd z (nI_ne0 (by omega) (by omega)))
    refine ax_iload_n dX7_mean_88 rfl ?_
    refine ax_i2d dX7_mean_89 ?_
    refine ax_iload_n dX7_mean_90 rfl ?_
    refine ax_i2d dX7_mean_91 ?_
    refine ax_ddiv dX7_mean_92 (fp_nan hs (by omega) hm) ?_
    exact ax_dret (st := []) dX7_mean_93 rfl hq

set_option maxRecDepth 100000 in
set_option maxHeartbeats 4000000 in
theorem rb_mean (hA : rw_nd A) (d : Nat) (R : rw_S) (h : ax_H) {σ : sp_St} (hR : RI A σ R h)  : AW G mX7_mean (d + 48) 0 0 (fun r h1 => ∃ R' h' b, r = .inl (some (.double b)) ∧ h1 = rw_O A R' h' ∧ hx_le h h' ∧ RI A σ R' h' ∧ R'.1 0 = nI (po_mean σ).1 ∧ ((po_mean σ).1 = 0 → b = (po_mean σ).2)) 0 [(0, .ref (A.1 0))] [] (rw_O A R h) 0 0 := by
  cases hs : σ.2.2 with
  | none =>
    have e0 : po_mean σ = (1, 0) := by unfold po_mean; rw [hs]
    rw [e0]
    refine ax_aload_n dX7_mean_0 rfl ?_
    refine ax_callV (b := (A.1 0)) (av := []) (rest := []) (mc' := 0) (ms' := 0) dX7_mean_1 rfl lkX7_167 (rw_g0 hA) rfl (Nat.le_of_ble_eq_true rfl) (Nat.le_of_ble_eq_true rfl) (by omega) (by omega) (r_hasN hA _ R h hR hs) (fun E9 h9 q9 => by cases q9.1) (fun v9 h9 q9 => ?_)
    obtain ⟨e9, rfl⟩ := q9
    cases e9
    show AW G mX7_mean (d + 48) 0 0 _ 4 [(0, .ref (A.1 0))] [.int 0] (rw_O A (rw_setS R 0 1) h) 0 0
    refine ax_if_ne (tgt := 9) dX7_mean_4 (by decide) (fun z => absurd rfl z) (fun _ => ?_)
    refine ax_dconst0 dX7_mean_7 ?_
    exact ax_dret (st := []) dX7_mean_8 rfl ⟨_, h, _, rfl, rfl, hx_rfl h, RI_s0 1 hR, rfl, fun z => Nat.noConfusion z⟩
  | some v =>
    obtain ⟨e, b, f, o1, o2, o3, o4, o5, o6, o7, o8, o9, o10, o11, o12, o13, o14, o15, o16, o17⟩ := rs_ok (RI_s0 0 hR) hs
    have hwT := (tb_ok hR.1).1
    have hty := sp_tab_ty hR.1
    obtain ⟨c1, c2, -⟩ := cd_it hR.1 hwT hty o4
    have hgx := sp_wT_g hwT o4
    have hil : (sp_ints e.2.2).length ≤ 24 := by
      obtain ⟨y1, y2, y3, y4, y5, -⟩ := hwT.2 v e o4
      omega
    have hsum := sp_sum_le (l := sp_ints e.2.2) (fun n hn => (sp_len_ints hgx.2).2.1 n hn)
    have e0 : po_mean σ = (0, if (sp_ints (sp_xo (po_T σ) v)).length = 0 then FP.dconst0 else FP.ddiv (FP.i2d (nI (sp_ints (sp_xo (po_T σ) v)).sum)) (FP.i2d (nI (sp_ints (sp_xo (po_T σ) v)).length))) := by unfold po_mean; rw [hs]
    rw [e0, o15]
    refine ax_aload_n dX7_mean_0 rfl ?_
    refine ax_callV (b := (A.1 0)) (av := []) (rest := []) (mc' := 0) (ms' := 0) dX7_mean_1 rfl lkX7_167 (rw_g0 hA) rfl (Nat.le_of_ble_eq_true rfl) (Nat.le_of_ble_eq_true rfl) (by omega) (by omega) (r_hasY hA _ R h hR hs) (fun E9 h9 q9 => by cases q9.1) (fun v9 h9 q9 => ?_)
    obtain ⟨e9, rfl⟩ := q9
    cases e9
    show AW G mX7_mean (d + 48) 0 0 _ 4 [(0, .ref (A.1 0))] [.int 1] (rw_O A (rw_setS R 0 0) h) 0 0
    refine ax_if_ne (tgt := 9) dX7_mean_4 (by decide) (fun _ => ?_) (fun z => absurd z (by decide))
    refine ax_iconst (v := 0) dX7_mean_9 (by decide) ?_
    refine ax_istore_n dX7_mean_10 (by decide) ?_
    refine ax_sub (lv' := [(0, .ref (A.1 0)), (1, .int 0)]) (fun _ z => z) ?_
    refine ax_iconst (v := 0) dX7_mean_11 (by decide) ?_
    refine ax_istore_n dX7_mean_12 (by decide) ?_
    refine ax_sub (lv' := [(0, .ref (A.1 0)), (1, .int 0), (2, .int 0)]) (fun _ z => z) ?_
    refine ax_aload_n dX7_mean_13 rfl ?_
    refine ax_get (v := .ref (A.1 5)) dX7_mean_14 fkX7_30 (rw_g0 hA) rfl ?_
    refine ax_aload_n dX7_mean_17 rfl ?_
    refine ax_callV (b := (A.1 0)) (av := []) (rest := [.ref (A.1 5)]) (mc' := 0) (ms' := 0) dX7_mean_18 rfl lkX7_171 (rw_g0 hA) rfl (Nat.le_of_ble_eq_true rfl) (Nat.le_of_ble_eq_true rfl) (by omega) (by omega) (r_current hA _ (rw_setS R 0 0) h (RI_s0 0 hR) hs) (fun E9 h9 q9 => by cases q9.1) (fun v9 h9 q9 => ?_)
    obtain ⟨e9, rfl⟩ := q9
    cases e9
    show AW G mX7_mean (d + 48) 0 0 _ 21 [(0, .ref (A.1 0)), (1, .int 0), (2, .int 0)] [.int (nI v), .ref (A.1 5)] (rw_O A (rw_setS R 0 0) h) 0 0
    refine ax_raald dX7_mean_21 (rw_g5 hA) (nI_in o5 (by decide)) (w := b) (by rw [nI_clamp (by omega)]; exact o11) ?_
    refine ax_astore_n dX7_mean_22 (by decide) ?_
    refine ax_sub (lv' := [(0, .ref (A.1 0)), (1, .int 0), (2, .int 0), (3, .ref b)]) (fun _ z => z) ?_
    refine ax_aload_n dX7_mean_23 rfl ?_
    refine ax_alen (n := (sp_cd (po_T σ) v).length) dX7_mean_24 (rw_rd o12) (by decide) ?_
    refine ax_istore dX7_mean_25 (by decide) ?_
    refine ax_sub (lv' := [(0, .ref (A.1 0)), (1, .int 0), (2, .int 0), (3, .ref b), (4, .int (nI ((sp_cd (po_T σ) v).length)))]) (fun _ z => z) ?_
    refine ax_iconst (v := 0) dX7_mean_27 (by decide) ?_
    refine ax_istore dX7_mean_28 (by decide) ?_
    refine ax_sub (lv' := [(0, .ref (A.1 0)), (1, .int 0), (2, .int 0), (3, .ref b), (4, .int (nI ((sp_cd (po_T σ) v).length))), (5, .int 0)]) (fun _ z => z) ?_
    refine mn_l hA d (rw_setS R 0 0) h (rw_rd o12) o16 o13 (cd_ent hR.1 hwT hty _ v e o4 (Nat.lt_succ_self v)) ?_ (sp_cd (po_T σ) v).length 0 (by omega)
    have c1 : it_f (sp_cd (po_T σ) v) = sp_ints e.2.2 := c1
    rw [c1]
    exact mn_e hA d (rw_setS R 0 0) h (rw_rd o12) o16 (by omega) hil ⟨_, h, _, rfl, rfl, hx_rfl h, RI_s0 0 hR, rfl, fun _ => rfl⟩
end RP9
