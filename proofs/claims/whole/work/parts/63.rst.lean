/-! ===== the reference's state ===== -/
theorem sp_mk_ok {g : sp_G} (hw : sp_wg g) : ∀ (j s : Nat) (T : List sp_E), s + j = 8 → sp_wT T → sp_srt T → sp_le T s → sp_wT (sp_mk g j T s).1 ∧ sp_srt (sp_mk g j T s).1 ∧ sp_le (sp_mk g j T s).1 (sp_mk g j T s).2 ∧ (sp_mk g j T s).2 ≤ 8 := by
  intro j
  induction j with
  | zero => intro s T hs h1 h2 h3; exact ⟨h1, h2, h3, by show s ≤ 8; omega⟩
  | succ j ih =>
    intro s T hs h1 h2 h3
    rw [rf_mk_s]
    cases hb : (rf_lv g T s).2 with
    | true => exact ⟨h1, h2, h3, by show s ≤ 8; omega⟩
    | false =>
      obtain ⟨o1, o2, o3, o4, o5⟩ := rf_pc_ok hw h1 h2 h3 (by omega) g.2.2.2.length
      exact ih (s + 1) (rf_lv g T s).1 (by omega) o1 o4 o5
theorem tb_ok {g : sp_G} (hw : sp_wg g) : sp_wT (sp_tab g).1 ∧ sp_srt (sp_tab g).1 ∧ sp_le (sp_tab g).1 (sp_tab g).2 ∧ (sp_tab g).2 ≤ 8 := sp_mk_ok hw 8 0 [] rfl ⟨by simp, fun v e he => by simp at he⟩ (fun v w e f _ z => by simp at z) (fun e z => absurd z List.not_mem_nil)
/-- the reference's cells hold the state -/
def RI (A : rw_Ad) (σ : sp_St) (R : rw_S) (h : ax_H) : Prop := sp_wg σ.1 ∧ rw_gr R σ.1 ∧ (R.1 8 = nI σ.2.1.length ∧ σ.2.1.length ≤ 40 ∧ (∀ i a, σ.2.1[i]? = some a → R.2.1 4 i = nI a) ∧ ∀ a ∈ σ.2.1, a ≤ 5 ∨ (100 ≤ a ∧ a ≤ 105)) ∧ (R.1 12 = 0 ∨ (R.1 12 = 1 ∧ rw_T A R h (po_T σ) ∧ R.1 13 = nI (po_H σ))) ∧ (match σ.2.2 with
  | none => R.1 10 = -1
  | some v => v < (po_T σ).length ∧ R.1 10 = nI (sp_tp (po_T σ) v) ∧ R.1 11 = nI (sp_rk (po_T σ) v) ∧ R.1 12 = 1)
def rm_C (R : rw_S) (g : sp_G) : Nat := if R.1 12 = 0 then mk_C g 8 [] 0 else 0
def rm_S (R : rw_S) (g : sp_G) : Nat := if R.1 12 = 0 then mk_S g 8 [] 0 else 0
/-- what a call of the reference leaves -/
def rb_Q (A : rw_Ad) (h : ax_H) (o : po_R) : ax_P := fun r h1 => ∃ R' h' b, r = .inl (some (.int b)) ∧ h1 = rw_O A R' h' ∧ hx_le h h' ∧ RI A o.2 R' h' ∧ R'.1 0 = nI o.1.1 ∧ (o.1.1 = 0 → b = o.1.2)
theorem RI_le {A : rw_Ad} {σ : sp_St} {R : rw_S} {h h' : ax_H} (hl : hx_le h h') (hR : RI A σ R h) : RI A σ R h' := by
  obtain ⟨r1, r2, r3, r4, r5⟩ := hR
  exact ⟨r1, r2, r3, r4.imp id (fun z => ⟨z.1, rw_T_le hl z.2.1, z.2.2⟩), r5⟩
/-- cells that the state doesn't speak of -/
def rw_fx (R R' : rw_S) : Prop := (∀ i, i ≠ 0 → i ≠ 20 → i ≠ 21 → i ≠ 23 → R'.1 i = R.1 i) ∧ (∀ i, i ≠ 10 → i ≠ 11 → R'.2.1 i = R.2.1 i) ∧ R'.2.2 = R.2.2
theorem rw_fx_rfl (R : rw_S) : rw_fx R R := ⟨fun _ _ _ _ _ => rfl, fun _ _ _ => rfl, rfl⟩
theorem rw_fx_tr {R1 R2 R3 : rw_S} (a : rw_fx R1 R2) (b : rw_fx R2 R3) : rw_fx R1 R3 := ⟨fun i w x y z => (b.1 i w x y z).trans (a.1 i w x y z), fun i x y => (b.2.1 i x y).trans (a.2.1 i x y), b.2.2.trans a.2.2⟩
theorem rw_fx_T {A : rw_Ad} {R R' : rw_S} {h : ax_H} {T : List sp_E} (hx : rw_fx R R') (hT : rw_T A R h T) : rw_T A R' h T := by
  refine ⟨(hx.1 14 (by decide) (by decide) (by decide) (by decide)).trans hT.1, ?_, ?_⟩
  · rw [hx.2.1 8 (by decide) (by decide)]; exact hT.2.1
  · rw [hx.2.2, hx.2.1 6 (by decide) (by decide), hx.2.1 7 (by decide) (by decide), hx.2.1 9 (by decide) (by decide)]; exact hT.2.2
theorem rw_fx_g {R R' : rw_S} {g : sp_G} (hx : rw_fx R R') (hg : rw_gr R g) : rw_gr R' g := by
  refine ⟨(hx.1 1 (by decide) (by decide) (by decide) (by decide)).trans hg.1, (hx.1 2 (by decide) (by decide) (by decide) (by decide)).trans hg.2.1, (hx.1 3 (by decide) (by decide) (by decide) (by decide)).trans hg.2.2.1, (hx.1 4 (by decide) (by decide) (by decide) (by decide)).trans hg.2.2.2.1, ?_⟩
  rw [hx.2.1 1 (by decide) (by decide), hx.2.1 2 (by decide) (by decide), hx.2.1 3 (by decide) (by decide)]
  exact hg.2.2.2.2
theorem RI_fx {A : rw_Ad} {σ : sp_St} {R R' : rw_S} {h : ax_H} (hx : rw_fx R R') (hR : RI A σ R h) : RI A σ R' h := by
  obtain ⟨r1, r2, r3, r4, r5⟩ := hR
  have e12 := hx.1 12 (by decide) (by decide) (by decide) (by decide)
  refine ⟨r1, rw_fx_g hx r2, ⟨(hx.1 8 (by decide) (by decide) (by decide) (by decide)).trans r3.1, r3.2.1, ?_, r3.2.2.2⟩, ?_, ?_⟩
  · rw [hx.2.1 4 (by decide) (by decide)]; exact r3.2.2.1
  · rw [e12]
    exact r4.imp id (fun z => ⟨z.1, rw_fx_T hx z.2.1, (hx.1 13 (by decide) (by decide) (by decide) (by decide)).trans z.2.2⟩)
  · rw [e12, hx.1 10 (by decide) (by decide) (by decide) (by decide), hx.1 11 (by decide) (by decide) (by decide) (by decide)]
    exact r5
section RST
variable {G : ax_G} {A : rw_Ad}
theorem r_mk (hA : rw_nd A) {σ : sp_St} (d : Nat) (R : rw_S) (h : ax_H) (hR : RI A σ R h) {Q : ax_P} (hQ : ∀ R' h', RI A σ R' h' → rw_T A R' h' (po_T σ) → R'.1 13 = nI (po_H σ) → R'.1 12 = 1 → rw_fm R R' → hx_le h h' → Q (.inl none) (rw_O A R' h')) : AW G mX7_make (d + 44) (rm_C R σ.1) (rm_S R σ.1) Q 0 [(0, .ref (A.1 0))] [] (rw_O A R h) 0 0 := by
  obtain ⟨r1, r2, r3, r4, r5⟩ := id hR
  rcases r4 with z | ⟨z1, z2, z3⟩
  · have e1 : rm_C R σ.1 = mk_C σ.1 8 [] 0 := if_pos z
    have e2 : rm_S R σ.1 = mk_S σ.1 8 [] 0 := if_pos z
    rw [e1, e2]
    refine r_make0 hA r1 (d + 43) (by omega) R h r2 z (fun R' h' w1 w2 w3 w4 w5 => hQ R' h' ⟨r1, rw_fm_g w4 r2, ⟨(w4.1 8 (by decide) (by decide) (by decide) (by decide) (by decide)).trans r3.1, r3.2.1, ?_, r3.2.2.2⟩, Or.inr ⟨w3, w1, w2⟩, ?_⟩ w1 w2 w3 w4 w5)
    · rw [w4.2 4 (by decide)]; exact r3.2.2.1
    · rw [w4.1 10 (by decide) (by decide) (by decide) (by decide) (by decide), w4.1 11 (by decide) (by decide) (by decide) (by decide) (by decide)]
      cases hs : σ.2.2 with
      | none => rw [hs] at r5; exact r5
      | some v =>
        rw [hs] at r5
        have := r5.2.2.2
        rw [z] at this
        exact absurd this (by decide)
  · exact r_make1 hA (d + 43) R h z1 (hQ R h hR z2 z3 z1 (rw_fm_rfl R) (hx_rfl h))

set_option maxRecDepth 100000 in
set_option maxHeartbeats 4000000 in
theorem ut_turn (hA : rw_nd A) (d : Nat) (R : rw_S) (h : ax_H) {t s m k cnt v zz : Nat} (ht : t < 4) (hcnt : R.2.1 8 t = nI cnt) (hc3 : cnt ≤ 300) (hk : k < cnt) (hrow : R.2.1 9 (300 * t + k) = nI v) (hv : v < 300) (hz : R.2.1 6 v = nI zz) (hz8 : zz ≤ 8) (hs : s ≤ 8) {Q : ax_P} (kk : AW G mX7_upTo (d + 1) 0 0 Q 5 [(0, .ref (A.1 0)), (1, .int (nI t)), (2, .int (nI s)), (3, .int (nI (m + (if zz ≤ s then 1 else 0)))), (4, .int (nI (k + 1)))] [] (rw_O A R h) 0 0) : AW G mX7_upTo (d + 1) 0 0 Q 5 [(0, .ref (A.1 0)), (1, .int (nI t)), (2, .int (nI s)), (3, .int (nI m)), (4, .int (nI k))] [] (rw_O A R h) 0 0 := by
  by_cases c1 : zz ≤ s
  · rw [if_pos c1] at kk
    refine ax_iload dX7_upTo_5 rfl ?_
    refine ax_aload_n dX7_upTo_7 rfl ?_
    refine ax_get (v := .ref (A.1 8)) dX7_upTo_8 fkX7_40 (rw_g0 hA) rfl ?_
    refine ax_iload_n dX7_upTo_11 rfl ?_
    refine ax_ialdv (x := (nI cnt)) dX7_upTo_12 (rw_g8 hA) (nI_in ht (by decide)) (by rw [nI_clamp (by omega)]; exact hcnt) ?_
    refine ax_icmp_ge (tgt := 46) dX7_upTo_13 (by decide) (fun z => absurd z (il_nle cnt k hk)) (fun _ => ?_)
    refine ax_iload_n dX7_upTo_16 rfl ?_
    refine ax_aload_n dX7_upTo_17 rfl ?_
    refine ax_get (v := .ref (A.1 6)) dX7_upTo_18 fkX7_34 (rw_g0 hA) rfl ?_
    refine ax_aload_n dX7_upTo_21 rfl ?_
    refine ax_iload_n dX7_upTo_22 rfl ?_
    refine ax_iload dX7_upTo_23 rfl ?_
    refine ax_callV (b := (A.1 0)) (av := [.int (nI t), .int (nI k)]) (rest := [.ref (A.1 6), .int (nI m)]) (mc' := 0) (ms' := 0) dX7_upTo_25 rfl lkX7_110 (rw_g0 hA) rfl (Nat.le_of_ble_eq_true rfl) (Nat.le_of_ble_eq_true rfl) (by decide) (by decide) (r_value hA _ R h (t := t) (k := k) ht (by omega) hrow) (fun E9 h9 q9 => by cases q9.1) (fun v9 h9 q9 => ?_)
    obtain ⟨e9, rfl⟩ := q9
    cases e9
    show AW G mX7_upTo (d + 1) 0 0 _ 28 [(0, .ref (A.1 0)), (1, .int (nI t)), (2, .int (nI s)), (3, .int (nI m)), (4, .int (nI k))] [.int (nI v), .ref (A.1 6), .int (nI m)] (rw_O A R h) 0 0
    refine ax_ialdv (x := (nI zz)) dX7_upTo_28 (rw_g6 hA) (nI_in hv (by decide)) (by rw [nI_clamp (by omega)]; exact hz) ?_
    refine ax_iload_n dX7_upTo_29 rfl ?_
    refine ax_icmp_gt (tgt := 37) dX7_upTo_30 (by decide) (fun z => absurd z (il_nlt s zz c1)) (fun _ => ?_)
    refine ax_iconst (v := 1) dX7_upTo_33 (by decide) ?_
    refine ax_goto (tgt := 38) dX7_upTo_34 (by decide) ?_
    refine ax_iadd dX7_upTo_38 ?_
    refine ax_top (y := (nI (m + 1))) (nI_1 m) ?_
    refine ax_istore_n dX7_upTo_39 (by decide) ?_
    refine ax_sub (lv' := [(0, .ref (A.1 0)), (1, .int (nI t)), (2, .int (nI s)), (3, .int (nI (m + 1))), (4, .int (nI k))]) (fun _ z => z) ?_
    refine ax_iinc (v := (nI (k + 1))) dX7_upTo_40 rfl (nI_1 k) (by decide) ?_
    refine ax_sub (lv' := [(0, .ref (A.1 0)), (1, .int (nI t)), (2, .int (nI s)), (3, .int (nI (m + 1))), (4, .int (nI (k + 1)))]) (fun _ z => z) ?_
    refine ax_goto (tgt := 5) dX7_upTo_43 (by decide) ?_
    exact kk
  · rw [if_neg c1] at kk
    refine ax_iload dX7_upTo_5 rfl ?_
    refine ax_aload_n dX7_upTo_7 rfl ?_
    refine ax_get (v := .ref (A.1 8)) dX7_upTo_8 fkX7_40 (rw_g0 hA) rfl ?_
    refine ax_iload_n dX7_upTo_11 rfl ?_
    refine ax_ialdv (x := (nI cnt)) dX7_upTo_12 (rw_g8 hA) (nI_in ht (by decide)) (by rw [nI_clamp (by omega)]; exact hcnt) ?_
    refine ax_icmp_ge (tgt := 46) dX7_upTo_13 (by decide) (fun z => absurd z (il_nle cnt k hk)) (fun _ => ?_)
    refine ax_iload_n dX7_upTo_16 rfl ?_
    refine ax_aload_n dX7_upTo_17 rfl ?_
    refine ax_get (v := .ref (A.1 6)) dX7_upTo_18 fkX7_34 (rw_g0 hA) rfl ?_
    refine ax_aload_n dX7_upTo_21 rfl ?_
    refine ax_iload_n dX7_upTo_22 rfl ?_
    refine ax_iload dX7_upTo_23 rfl ?_
    refine ax_callV (b := (A.1 0)) (av := [.int (nI t), .int (nI k)]) (rest := [.ref (A.1 6), .int (nI m)]) (mc' := 0) (ms' := 0) dX7_upTo_25 rfl lkX7_110 (rw_g0 hA) rfl (Nat.le_of_ble_eq_true rfl) (Nat.le_of_ble_eq_true rfl) (by decide) (by decide) (r_value hA _ R h (t := t) (k := k) ht (by omega) hrow) (fun E9 h9 q9 => by cases q9.1) (fun v9 h9 q9 => ?_)
    obtain ⟨e9, rfl⟩ := q9
    cases e9
    show AW G mX7_upTo (d + 1) 0 0 _ 28 [(0, .ref (A.1 0)), (1, .int (nI t)), (2, .int (nI s)), (3, .int (nI m)), (4, .int (nI k))] [.int (nI v), .ref (A.1 6), .int (nI m)] (rw_O A R h) 0 0
    refine ax_ialdv (x := (nI zz)) dX7_upTo_28 (rw_g6 hA) (nI_in hv (by decide)) (by rw [nI_clamp (by omega)]; exact hz) ?_
    refine ax_iload_n dX7_upTo_29 rfl ?_
    refine ax_icmp_gt (tgt := 37) dX7_upTo_30 (by decide) (fun _ => ?_) (fun z => absurd (il_lt s zz (by omega)) z)
    refine ax_iconst (v := 0) dX7_upTo_37 (by decide) ?_
    refine ax_iadd dX7_upTo_38 ?_
    refine ax_top (y := (nI (m + 0))) (nI_add m 0) ?_
    refine ax_istore_n dX7_upTo_39 (by decide) ?_
    refine ax_sub (lv' := [(0, .ref (A.1 0)), (1, .int (nI t)), (2, .int (nI s)), (3, .int (nI (m + 0))), (4, .int (nI k))]) (fun _ z => z) ?_
    refine ax_iinc (v := (nI (k + 1))) dX7_upTo_40 rfl (nI_1 k) (by decide) ?_
    refine ax_sub (lv' := [(0, .ref (A.1 0)), (1, .int (nI t)), (2, .int (nI s)), (3, .int (nI (m + 0))), (4, .int (nI (k + 1)))]) (fun _ z => z) ?_
    refine ax_goto (tgt := 5) dX7_upTo_43 (by decide) ?_
    exact kk
theorem ut_end (hA : rw_nd A) (d : Nat) (R : rw_S) (h : ax_H) {t s m cnt : Nat} (ht : t < 4) (hcnt : R.2.1 8 t = nI cnt) (hc3 : cnt ≤ 300) {Q : ax_P} (hq : Q (.inl (some (.int (nI m)))) (rw_O A R h)) : AW G mX7_upTo (d + 1) 0 0 Q 5 [(0, .ref (A.1 0)), (1, .int (nI t)), (2, .int (nI s)), (3, .int (nI m)), (4, .int (nI cnt))] [] (rw_O A R h) 0 0 := by
  refine ax_iload dX7_upTo_5 rfl ?_
  refine ax_aload_n dX7_upTo_7 rfl ?_
  refine ax_get (v := .ref (A.1 8)) dX7_upTo_8 fkX7_40 (rw_g0 hA) rfl ?_
  refine ax_iload_n dX7_upTo_11 rfl ?_
  refine ax_ialdv (x := (nI cnt)) dX7_upTo_12 (rw_g8 hA) (nI_in ht (by decide)) (by rw [nI_clamp (by omega)]; exact hcnt) ?_
  refine ax_icmp_ge (tgt := 46) dX7_upTo_13 (by decide) (fun _ => ?_) (fun z => absurd (il_le cnt cnt (Nat.le_refl _)) z)
  refine ax_iload_n dX7_upTo_46 rfl ?_
  exact ax_iret (st := []) dX7_upTo_47 rfl rfl hq
def ut_n (T : List sp_E) (t s k : Nat) : Nat := ((sp_of T t).take k).countP (fun v => decide (1 + sp_size (sp_xo T v) ≤ s))
theorem ut_all (T : List sp_E) (t s : Nat) : ut_n T t s (sp_cnt T t) = sp_upto T t s := by
  have key : ∀ (m : Nat) (T : List sp_E), T.length = m → (sp_of T t).countP (fun v => decide (1 + sp_size (sp_xo T v) ≤ s)) = sp_upto T t s := by
    intro m
    induction m with
    | zero => intro T hT; rw [List.length_eq_zero_iff.mp hT]; rfl
    | succ m ih =>
      intro T hT
      have hne : T ≠ [] := fun e => by rw [e] at hT; cases hT
      obtain ⟨T', e, rfl⟩ : ∃ T' e, T = T' ++ [e] := ⟨T.dropLast, T.getLast hne, (List.dropLast_concat_getLast hne).symm⟩
      rw [List.length_append] at hT
      have hT : T'.length + 1 = m + 1 := hT
      have hi := ih T' (by omega)
      rw [sp_of_snoc, List.countP_append]
      have h1 : (sp_of T' t).countP (fun v => decide (1 + sp_size (sp_xo (T' ++ [e]) v) ≤ s)) = (sp_of T' t).countP (fun v => decide (1 + sp_size (sp_xo T' v) ≤ s)) := by
        refine List.countP_congr (fun v hv => ?_)
        obtain ⟨i, hi⟩ := List.getElem?_of_mem hv
        obtain ⟨f, f1, -⟩ := sp_of_at hi
        have hvl := (List.getElem?_eq_some_iff.mp f1).1
        unfold sp_xo
        rw [List.getElem?_append_left hvl]
      rw [h1, hi]
      unfold sp_upto
      rw [List.countP_append]
      congr 1
      by_cases he : e.1 = t
      · rw [if_pos he, List.countP_singleton, List.countP_singleton]
        have hx : sp_xo (T' ++ [e]) T'.length = e.2.2 := by
          unfold sp_xo
          rw [List.getElem?_append_right (Nat.le_refl _), Nat.sub_self]; rfl
        rw [hx]
        simp [he]
      · rw [if_neg he, List.countP_nil, List.countP_singleton]
        simp [he]
  unfold ut_n
  rw [← sp_of_len, List.take_length]
  exact key T.length T rfl
theorem r_upTo (hA : rw_nd A) (d : Nat) (R : rw_S) (h : ax_H) {T : List sp_E} (hT : rw_T A R h T) (hwT : sp_wT T) {t s : Nat} (ht : t < 4) (hs : s ≤ 8) : AW G mX7_upTo (d + 1) 0 0 (fun r h1 => r = .inl (some (.int (nI (sp_upto T t s)))) ∧ h1 = (rw_O A R h)) 0 [(0, .ref (A.1 0)), (1, .int (nI t)), (2, .int (nI s))] [] (rw_O A R h) 0 0 := by
  have hc3 : sp_cnt T t ≤ 300 := Nat.le_trans (sp_cnt_le T t) hwT.1
  have loop : ∀ (i k : Nat), k + i = sp_cnt T t → AW G mX7_upTo (d + 1) 0 0 (fun r h1 => r = .inl (some (.int (nI (sp_upto T t s)))) ∧ h1 = (rw_O A R h)) 5 [(0, .ref (A.1 0)), (1, .int (nI t)), (2, .int (nI s)), (3, .int (nI (ut_n T t s k))), (4, .int (nI k))] [] (rw_O A R h) 0 0 := by
    intro i
    induction i with
    | zero =>
      intro k hk
      have hk : k = sp_cnt T t := by omega
      subst hk
      rw [ut_all]
      exact ut_end hA d R h ht (hT.2.1 t ht) hc3 ⟨rfl, rfl⟩
    | succ i ih =>
      intro k hk
      have hkl : k < (sp_of T t).length := by rw [sp_of_len]; omega
      obtain ⟨e, f1, f2, f3, f4, f5, f6, f7, f8, f9, f10, -, f13, -⟩ := rw_T_at hT hwT (List.getElem?_eq_getElem hkl)
      refine ut_turn hA d R h ht (hT.2.1 t ht) hc3 (by omega) f8 f4 f9 f13 hs ?_
      have hx : sp_xo T (sp_of T t)[k] = e.2.2 := by unfold sp_xo; rw [f1]
      have hn : ut_n T t s (k + 1) = ut_n T t s k + (if sp_sz e ≤ s then 1 else 0) := by
        unfold ut_n
        rw [List.take_succ_eq_append_getElem hkl, List.countP_append, List.countP_singleton, hx]
        congr 1
        show (if decide (1 + sp_size e.2.2 ≤ s) = true then 1 else 0) = _
        unfold sp_sz
        simp
      have := ih (k + 1) (by omega)
      rw [hn] at this
      exact this
  refine ax_iconst (v := 0) dX7_upTo_0 (by decide) ?_
  refine ax_istore_n dX7_upTo_1 (by decide) ?_
  refine ax_sub (lv' := [(0, .ref (A.1 0)), (1, .int (nI t)), (2, .int (nI s)), (3, .int 0)]) (fun _ z => z) ?_
  refine ax_iconst (v := 0) dX7_upTo_2 (by decide) ?_
  refine ax_istore dX7_upTo_3 (by decide) ?_
  refine ax_sub (lv' := [(0, .ref (A.1 0)), (1, .int (nI t)), (2, .int (nI s)), (3, .int 0), (4, .int 0)]) (fun _ z => z) ?_
  exact loop (sp_cnt T t) 0 (by omega)
end RST
