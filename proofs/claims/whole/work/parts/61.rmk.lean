/-! ===== the reference: make ===== -/
section RMK
variable {G : ax_G} {A : rw_Ad}

set_option maxRecDepth 100000 in
set_option maxHeartbeats 4000000 in
theorem mk_ret (hA : rw_nd A) (d mc ms : Nat) (R : rw_S) (h : ax_H) {cn sn : Nat} (hcn : cn ≤ mc) (hsn : sn ≤ ms) (h12 : R.1 12 = 1) {Q : ax_P} (hq : Q (.inl none) (rw_O A R h)) : AW G mX7_make (d + 1) mc ms Q 0 [(0, .ref (A.1 0))] [] (rw_O A R h) cn sn := by
  refine ax_aload_n dX7_make_0 rfl ?_
  refine ax_get (v := .int 1) dX7_make_1 fkX7_62 (rw_g0 hA) (congrArg (fun z => some (Value.int z)) (h12)) ?_
  refine ax_if_eq (tgt := 8) dX7_make_4 (by decide) (fun z => absurd z (by decide)) (fun _ => ?_)
  exact ax_vret (st := []) dX7_make_7 rfl hq
theorem mk_beg (hA : rw_nd A) (d mc ms : Nat) (R : rw_S) (h : ax_H) {cn sn : Nat} (hcn : cn ≤ mc) (hsn : sn ≤ ms) (h12 : R.1 12 = 0) {Q : ax_P} (kk : ∀ R1 : rw_S, R1.1 = upd (upd (upd R.1 12 1) 13 0) 14 0 → (∀ i, i ≠ 8 → R1.2.1 i = R.2.1 i) → R1.2.2 = R.2.2 → (∀ t, t < 4 → R1.2.1 8 t = 0) → AW G mX7_make (d + 1) mc ms Q 45 [(0, .ref (A.1 0)), (1, .int 1)] [] (rw_O A R1 h) cn sn) : AW G mX7_make (d + 1) mc ms Q 0 [(0, .ref (A.1 0))] [] (rw_O A R h) cn sn := by
  refine ax_aload_n dX7_make_0 rfl ?_
  refine ax_get (v := .int 0) dX7_make_1 fkX7_62 (rw_g0 hA) (congrArg (fun z => some (Value.int z)) (h12)) ?_
  refine ax_if_eq (tgt := 8) dX7_make_4 (by decide) (fun _ => ?_) (fun z => absurd rfl z)
  refine ax_aload_n dX7_make_8 rfl ?_
  refine ax_iconst (v := 1) dX7_make_9 (by decide) ?_
  refine ax_put dX7_make_10 fpX7_62 (rw_g0 hA) rfl rfl (Nat.le_of_ble_eq_true rfl) ?_
  refine ax_eqh (rw_ps12 hA) ?_
  refine ax_aload_n dX7_make_13 rfl ?_
  refine ax_iconst (v := 0) dX7_make_14 (by decide) ?_
  refine ax_put dX7_make_15 fpX7_130 (rw_g0 hA) rfl rfl (Nat.le_of_ble_eq_true rfl) ?_
  refine ax_eqh (rw_ps13 hA) ?_
  refine ax_aload_n dX7_make_18 rfl ?_
  refine ax_iconst (v := 0) dX7_make_19 (by decide) ?_
  refine ax_put dX7_make_20 fpX7_127 (rw_g0 hA) rfl rfl (Nat.le_of_ble_eq_true rfl) ?_
  refine ax_eqh (rw_ps14 hA) ?_
  refine ax_iconst (v := 0) dX7_make_23 (by decide) ?_
  refine ax_istore_n dX7_make_24 (by decide) ?_
  refine ax_sub (lv' := [(0, .ref (A.1 0)), (1, .int 0)]) (fun _ z => z) ?_
  refine ax_iload_n dX7_make_25 rfl ?_
  refine ax_iconst (v := 4) dX7_make_26 (by decide) ?_
  refine ax_icmp_ge (tgt := 43) dX7_make_27 (by decide) (fun z => absurd z (by decide)) (fun _ => ?_)
  refine ax_aload_n dX7_make_30 rfl ?_
  refine ax_get (v := .ref (A.1 8)) dX7_make_31 fkX7_40 (rw_g0 hA) rfl ?_
  refine ax_iload_n dX7_make_34 rfl ?_
  refine ax_iconst (v := 0) dX7_make_35 (by decide) ?_
  refine ax_iast dX7_make_36 (rw_g8 hA) (by unfold vp_in; decide) ?_
  refine ax_eqh (rw_pa8 hA) ?_
  refine ax_iinc (v := 1) dX7_make_37 rfl (by decide) (by decide) ?_
  refine ax_sub (lv' := [(0, .ref (A.1 0)), (1, .int 1)]) (fun _ z => z) ?_
  refine ax_goto (tgt := 25) dX7_make_40 (by decide) ?_
  refine ax_iload_n dX7_make_25 rfl ?_
  refine ax_iconst (v := 4) dX7_make_26 (by decide) ?_
  refine ax_icmp_ge (tgt := 43) dX7_make_27 (by decide) (fun z => absurd z (by decide)) (fun _ => ?_)
  refine ax_aload_n dX7_make_30 rfl ?_
  refine ax_get (v := .ref (A.1 8)) dX7_make_31 fkX7_40 (rw_g0 hA) rfl ?_
  refine ax_iload_n dX7_make_34 rfl ?_
  refine ax_iconst (v := 0) dX7_make_35 (by decide) ?_
  refine ax_iast dX7_make_36 (rw_g8 hA) (by unfold vp_in; decide) ?_
  refine ax_eqh (rw_pa8 hA) ?_
  refine ax_iinc (v := 2) dX7_make_37 rfl (by decide) (by decide) ?_
  refine ax_sub (lv' := [(0, .ref (A.1 0)), (1, .int 2)]) (fun _ z => z) ?_
  refine ax_goto (tgt := 25) dX7_make_40 (by decide) ?_
  refine ax_iload_n dX7_make_25 rfl ?_
  refine ax_iconst (v := 4) dX7_make_26 (by decide) ?_
  refine ax_icmp_ge (tgt := 43) dX7_make_27 (by decide) (fun z => absurd z (by decide)) (fun _ => ?_)
  refine ax_aload_n dX7_make_30 rfl ?_
  refine ax_get (v := .ref (A.1 8)) dX7_make_31 fkX7_40 (rw_g0 hA) rfl ?_
  refine ax_iload_n dX7_make_34 rfl ?_
  refine ax_iconst (v := 0) dX7_make_35 (by decide) ?_
  refine ax_iast dX7_make_36 (rw_g8 hA) (by unfold vp_in; decide) ?_
  refine ax_eqh (rw_pa8 hA) ?_
  refine ax_iinc (v := 3) dX7_make_37 rfl (by decide) (by decide) ?_
  refine ax_sub (lv' := [(0, .ref (A.1 0)), (1, .int 3)]) (fun _ z => z) ?_
  refine ax_goto (tgt := 25) dX7_make_40 (by decide) ?_
  refine ax_iload_n dX7_make_25 rfl ?_
  refine ax_iconst (v := 4) dX7_make_26 (by decide) ?_
  refine ax_icmp_ge (tgt := 43) dX7_make_27 (by decide) (fun z => absurd z (by decide)) (fun _ => ?_)
  refine ax_aload_n dX7_make_30 rfl ?_
  refine ax_get (v := .ref (A.1 8)) dX7_make_31 fkX7_40 (rw_g0 hA) rfl ?_
  refine ax_iload_n dX7_make_34 rfl ?_
  refine ax_iconst (v := 0) dX7_make_35 (by decide) ?_
  refine ax_iast dX7_make_36 (rw_g8 hA) (by unfold vp_in; decide) ?_
  refine ax_eqh (rw_pa8 hA) ?_
  refine ax_iinc (v := 4) dX7_make_37 rfl (by decide) (by decide) ?_
  refine ax_sub (lv' := [(0, .ref (A.1 0)), (1, .int 4)]) (fun _ z => z) ?_
  refine ax_goto (tgt := 25) dX7_make_40 (by decide) ?_
  refine ax_iload_n dX7_make_25 rfl ?_
  refine ax_iconst (v := 4) dX7_make_26 (by decide) ?_
  refine ax_icmp_ge (tgt := 43) dX7_make_27 (by decide) (fun _ => ?_) (fun z => absurd (by decide) z)
  refine ax_iconst (v := 1) dX7_make_43 (by decide) ?_
  refine ax_istore_n dX7_make_44 (by decide) ?_
  refine ax_sub (lv' := [(0, .ref (A.1 0)), (1, .int 1)]) (fun _ z => z) ?_
  refine kk _ rfl (fun x hx => (va_up_ne _ _ hx).trans ((va_up_ne _ _ hx).trans ((va_up_ne _ _ hx).trans (va_up_ne _ _ hx)))) rfl (fun t ht => ?_)
  rcases (show t = 0 ∨ t = 1 ∨ t = 2 ∨ t = 3 by omega) with rfl | rfl | rfl | rfl <;> rfl
theorem mk_e0 (hA : rw_nd A) (d mc ms : Nat) (R : rw_S) (h : ax_H) {cn sn : Nat} (hcn : cn ≤ mc) (hsn : sn ≤ ms) {Q : ax_P} (hq : Q (.inl none) (rw_O A R h)) : AW G mX7_make (d + 1) mc ms Q 45 [(0, .ref (A.1 0)), (1, .int 0)] [] (rw_O A R h) cn sn := by
  refine ax_iload_n dX7_make_45 rfl ?_
  refine ax_if_eq (tgt := 175) dX7_make_46 (by decide) (fun _ => ?_) (fun z => absurd rfl z)
  exact ax_vret (st := []) dX7_make_175 rfl hq
theorem mk_e8 (hA : rw_nd A) (d mc ms : Nat) (R : rw_S) (h : ax_H) {cn sn : Nat} (hcn : cn ≤ mc) (hsn : sn ≤ ms) (h13 : R.1 13 = nI 8) {Q : ax_P} (hq : Q (.inl none) (rw_O A R h)) : AW G mX7_make (d + 1) mc ms Q 45 [(0, .ref (A.1 0)), (1, .int 1)] [] (rw_O A R h) cn sn := by
  refine ax_iload_n dX7_make_45 rfl ?_
  refine ax_if_eq (tgt := 175) dX7_make_46 (by decide) (fun z => absurd z (by decide)) (fun _ => ?_)
  refine ax_aload_n dX7_make_49 rfl ?_
  refine ax_get (v := .int (nI 8)) dX7_make_50 fkX7_130 (rw_g0 hA) (congrArg (fun z => some (Value.int z)) (h13)) ?_
  refine ax_bipush (v := 8) dX7_make_53 (by decide) ?_
  refine ax_icmp_ge (tgt := 175) dX7_make_55 (by decide) (fun _ => ?_) (fun z => absurd (by decide) z)
  exact ax_vret (st := []) dX7_make_175 rfl hq

set_option maxRecDepth 100000 in
set_option maxHeartbeats 4000000 in
theorem mk_cp (hA : rw_nd A) (d mc ms : Nat) (R : rw_S) (h : ax_H) {cn sn : Nat} (hcn : cn ≤ mc) (hsn : sn ≤ ms) {q k : Nat} {f : Nat → Int32} (hq : rw_at A h q (.inl (0, 4, .inl f))) (hk : k < 4) {Q : ax_P} (kk : AW G mX7_make (d + 1) mc ms Q 64 [(0, .ref (A.1 0)), (1, .int 1), (2, .ref q), (3, .int (nI (k + 1)))] [] (rw_O A R (va_up h q (some (.inl (0, 4, .inl (upd f k (R.2.1 8 k))))))) cn sn) : AW G mX7_make (d + 1) mc ms Q 64 [(0, .ref (A.1 0)), (1, .int 1), (2, .ref q), (3, .int (nI k))] [] (rw_O A R h) cn sn := by
  refine ax_iload_n dX7_make_64 rfl ?_
  refine ax_iconst (v := 4) dX7_make_65 (by decide) ?_
  refine ax_icmp_ge (tgt := 84) dX7_make_66 (by decide) (fun z => absurd z (il_nle 4 k hk)) (fun _ => ?_)
  refine ax_aload_n dX7_make_69 rfl ?_
  refine ax_iload_n dX7_make_70 rfl ?_
  refine ax_aload_n dX7_make_71 rfl ?_
  refine ax_get (v := .ref (A.1 8)) dX7_make_72 fkX7_40 (rw_g0 hA) rfl ?_
  refine ax_iload_n dX7_make_75 rfl ?_
  refine ax_ialdv (x := R.2.1 8 k) dX7_make_76 (rw_g8 hA) (nI_in hk (by decide)) (by rw [nI_clamp (by omega)]) ?_
  refine ax_iast dX7_make_77 (rw_rd hq) (nI_in hk (by decide)) ?_
  refine ax_eqh (rw_up hq.2) ?_
  rw [nI_clamp (by omega)]
  refine ax_iinc (v := nI (k + 1)) dX7_make_78 rfl (nI_1 k) (by decide) ?_
  refine ax_sub (lv' := [(0, .ref (A.1 0)), (1, .int 1), (2, .ref q), (3, .int (nI (k + 1)))]) (fun _ z => z) ?_
  refine ax_goto (tgt := 64) dX7_make_81 (by decide) ?_
  exact kk
theorem mk_cpe (hA : rw_nd A) (d mc ms : Nat) (R : rw_S) (h : ax_H) {cn sn : Nat} (hcn : cn ≤ mc) (hsn : sn ≤ ms) {q n : Nat} (h14 : R.1 14 = nI n) {Q : ax_P} (kk : AW G mX7_make (d + 1) mc ms Q 92 [(0, .ref (A.1 0)), (1, .int 1), (2, .ref q), (3, .int (nI n)), (4, .int (nI 0))] [] (rw_O A R h) cn sn) : AW G mX7_make (d + 1) mc ms Q 64 [(0, .ref (A.1 0)), (1, .int 1), (2, .ref q), (3, .int (nI 4))] [] (rw_O A R h) cn sn := by
  refine ax_iload_n dX7_make_64 rfl ?_
  refine ax_iconst (v := 4) dX7_make_65 (by decide) ?_
  refine ax_icmp_ge (tgt := 84) dX7_make_66 (by decide) (fun _ => ?_) (fun z => absurd (by decide) z)
  refine ax_aload_n dX7_make_84 rfl ?_
  refine ax_get (v := .int (nI n)) dX7_make_85 fkX7_127 (rw_g0 hA) (congrArg (fun z => some (Value.int z)) (h14)) ?_
  refine ax_istore_n dX7_make_88 (by decide) ?_
  refine ax_sub (lv' := [(0, .ref (A.1 0)), (1, .int 1), (2, .ref q), (3, .int (nI n))]) (fun _ z => z) ?_
  refine ax_iconst (v := 0) dX7_make_89 (by decide) ?_
  refine ax_istore dX7_make_90 (by decide) ?_
  refine ax_sub (lv' := [(0, .ref (A.1 0)), (1, .int 1), (2, .ref q), (3, .int (nI n)), (4, .int 0)]) (fun _ z => z) ?_
  exact kk
theorem mk_cpl (hA : rw_nd A) (d mc ms : Nat) (R : rw_S) (h : ax_H) {cn sn : Nat} (hcn : cn ≤ mc) (hsn : sn ≤ ms) {q n : Nat} (h14 : R.1 14 = nI n) {Q : ax_P} (kk : ∀ h2 f, hx_le h h2 → rw_at A h2 q (.inl (0, 4, .inl f)) → (∀ t, t < 4 → f t = R.2.1 8 t) → AW G mX7_make (d + 1) mc ms Q 92 [(0, .ref (A.1 0)), (1, .int 1), (2, .ref q), (3, .int (nI n)), (4, .int (nI 0))] [] (rw_O A R h2) cn sn) (hq0 : h q = none) : ∀ (i k : Nat) (h1 : ax_H) (f : Nat → Int32), k + i = 4 → hx_le h h1 → rw_at A h1 q (.inl (0, 4, .inl f)) → (∀ t, t < k → f t = R.2.1 8 t) → AW G mX7_make (d + 1) mc ms Q 64 [(0, .ref (A.1 0)), (1, .int 1), (2, .ref q), (3, .int (nI k))] [] (rw_O A R h1) cn sn := by
  intro i
  induction i with
  | zero =>
    intro k h1 f hk hl hat hf
    have hk : k = 4 := by omega
    subst hk
    exact mk_cpe hA d mc ms R h1 hcn hsn h14 (kk h1 f hl hat hf)
  | succ i ih =>
    intro k h1 f hk hl hat hf
    refine mk_cp hA d mc ms R h1 hcn hsn hat (by omega) (ih (k + 1) _ _ (by omega) (fun x o z => ?_) ⟨ax_up_s, hat.2⟩ (fun t ht => ?_))
    · rw [ax_up_n (fun e => by rw [e, hq0] at z; cases z)]; exact hl x o z
    · by_cases htk : t = k
      · subst htk; rw [pk_us]
      · rw [pk_un htk]; exact hf t (by omega)
theorem mk_lvl (hA : rw_nd A) (d mc ms : Nat) (R : rw_S) (h : ax_H) {cn sn : Nat} (hcn : cn ≤ mc) (hsn : sn ≤ ms) {s n : Nat} (h13 : R.1 13 = nI s) (hs : s < 8) (h14 : R.1 14 = nI n) (hb1 : cn + 1 ≤ mc) (hb2 : sn + 4 ≤ ms) {Q : ax_P} (kk : ∀ q h2 f, hx_le h h2 → rw_at A h2 q (.inl (0, 4, .inl f)) → (∀ t, t < 4 → f t = R.2.1 8 t) → AW G mX7_make (d + 1) mc ms Q 92 [(0, .ref (A.1 0)), (1, .int 1), (2, .ref q), (3, .int (nI n)), (4, .int (nI 0))] [] (rw_O A R h2) (cn + 1) (sn + 4)) : AW G mX7_make (d + 1) mc ms Q 45 [(0, .ref (A.1 0)), (1, .int 1)] [] (rw_O A R h) cn sn := by
  refine ax_iload_n dX7_make_45 rfl ?_
  refine ax_if_eq (tgt := 175) dX7_make_46 (by decide) (fun z => absurd z (by decide)) (fun _ => ?_)
  refine ax_aload_n dX7_make_49 rfl ?_
  refine ax_get (v := .int (nI s)) dX7_make_50 fkX7_130 (rw_g0 hA) (congrArg (fun z => some (Value.int z)) h13) ?_
  refine ax_bipush (v := 8) dX7_make_53 (by decide) ?_
  refine ax_icmp_ge (tgt := 175) dX7_make_55 (by decide) (fun z => absurd z (il_nle 8 s hs)) (fun _ => ?_)
  refine ax_iconst (v := 4) dX7_make_58 (by decide) ?_
  refine ax_newa_int (N := 4) dX7_make_59 ax_aI (by decide) (by decide) (by decide) hb1 hb2 (fun q hq => ?_)
  obtain ⟨q1, q2⟩ := rw_new hA hq
  refine ax_eqh (rw_up q1) ?_
  refine ax_astore_n dX7_make_61 (by decide) ?_
  refine ax_sub (lv' := [(0, .ref (A.1 0)), (1, .int 1), (2, .ref q)]) (fun _ z => z) ?_
  refine ax_iconst (v := 0) dX7_make_62 (by decide) ?_
  refine ax_istore_n dX7_make_63 (by decide) ?_
  refine ax_sub (lv' := [(0, .ref (A.1 0)), (1, .int 1), (2, .ref q), (3, .int (nI 0))]) (fun _ z => z) ?_
  exact mk_cpl hA d mc ms R h hb1 hb2 h14 (fun h2 f a b c => kk q h2 f a b c) q2 4 0 _ _ (by omega) (hx_up q2) ⟨ax_up_s, q1⟩ (fun t ht => absurd ht (by omega))

set_option maxRecDepth 100000 in
set_option maxHeartbeats 4000000 in
theorem mk_w0 (hA : rw_nd A) (d mc ms : Nat) (R : rw_S) (h : ax_H) {cn sn : Nat} (hcn : cn ≤ mc) (hsn : sn ≤ ms) {q n c nc : Nat} (h4 : R.1 4 = nI nc) (hnc : nc ≤ 6) (hc : c ≤ 6) {Q : ax_P} (kk : AW G mX7_make (d + 1) mc ms Q 124 [(0, .ref (A.1 0)), (1, .int 0), (2, .ref q), (3, .int (nI n)), (4, .int (nI c))] [] (rw_O A R h) cn sn) : AW G mX7_make (d + 1) mc ms Q 92 [(0, .ref (A.1 0)), (1, .int 0), (2, .ref q), (3, .int (nI n)), (4, .int (nI c))] [] (rw_O A R h) cn sn := by
  by_cases hcc : nc ≤ c
  · refine ax_iload dX7_make_92 rfl ?_
    refine ax_aload_n dX7_make_94 rfl ?_
    refine ax_get (v := .int (nI nc)) dX7_make_95 fkX7_80 (rw_g0 hA) (congrArg (fun z => some (Value.int z)) (h4)) ?_
    refine ax_icmp_ge (tgt := 124) dX7_make_98 (by decide) (fun _ => ?_) (fun z => absurd (il_le nc c hcc) z)
    exact kk
  · refine ax_iload dX7_make_92 rfl ?_
    refine ax_aload_n dX7_make_94 rfl ?_
    refine ax_get (v := .int (nI nc)) dX7_make_95 fkX7_80 (rw_g0 hA) (congrArg (fun z => some (Value.int z)) (h4)) ?_
    refine ax_icmp_ge (tgt := 124) dX7_make_98 (by decide) (fun z => absurd z (il_nle nc c (by omega))) (fun _ => ?_)
    refine ax_iload_n dX7_make_101 rfl ?_
    refine ax_if_eq (tgt := 124) dX7_make_102 (by decide) (fun _ => ?_) (fun z => absurd rfl z)
    exact kk
theorem mk_w1 (hA : rw_nd A) (d mc ms : Nat) (R : rw_S) (h : ax_H) {cn sn : Nat} (hcn : cn ≤ mc) (hsn : sn ≤ ms) {q n nc : Nat} (h4 : R.1 4 = nI nc) (hnc : nc ≤ 6) {Q : ax_P} (kk : AW G mX7_make (d + 1) mc ms Q 124 [(0, .ref (A.1 0)), (1, .int 1), (2, .ref q), (3, .int (nI n)), (4, .int (nI nc))] [] (rw_O A R h) cn sn) : AW G mX7_make (d + 1) mc ms Q 92 [(0, .ref (A.1 0)), (1, .int 1), (2, .ref q), (3, .int (nI n)), (4, .int (nI nc))] [] (rw_O A R h) cn sn := by
  refine ax_iload dX7_make_92 rfl ?_
  refine ax_aload_n dX7_make_94 rfl ?_
  refine ax_get (v := .int (nI nc)) dX7_make_95 fkX7_80 (rw_g0 hA) (congrArg (fun z => some (Value.int z)) (h4)) ?_
  refine ax_icmp_ge (tgt := 124) dX7_make_98 (by decide) (fun _ => ?_) (fun z => absurd (il_le nc nc (Nat.le_refl _)) z)
  exact kk

set_option maxRecDepth 100000 in
set_option maxHeartbeats 4000000 in
theorem mk_wr (hA : rw_nd A) (d mc ms : Nat) (R : rw_S) (h : ax_H) {cn sn : Nat} (hcn : cn ≤ mc) (hsn : sn ≤ ms) {q n c nc s mc' ms' : Nat} (h4 : R.1 4 = nI nc) (hnc : nc ≤ 6) (hc : c < nc) (h13 : R.1 13 = nI s) {P0 P1 : rw_S → ax_H → Prop} (hb1 : cn + mc' ≤ mc) (hb2 : sn + ms' ≤ ms) (hwr : AW G mX7_write d mc' ms' (fun r h1 => ∃ R' h', h1 = rw_O A R' h' ∧ ((r = .inl (some (.int 0)) ∧ P0 R' h') ∨ (r = .inl (some (.int 1)) ∧ P1 R' h'))) 0 [(0, .ref (A.1 0)), (1, .int (nI c)), (2, .int (nI (s + 1)))] [] (rw_O A R h) 0 0) {Q : ax_P} (k0 : ∀ R' h', P0 R' h' → AW G mX7_make (d + 1) mc ms Q 92 [(0, .ref (A.1 0)), (1, .int 0), (2, .ref q), (3, .int (nI n)), (4, .int (nI (c + 1)))] [] (rw_O A R' h') (cn + mc') (sn + ms')) (k1 : ∀ R' h', P1 R' h' → AW G mX7_make (d + 1) mc ms Q 92 [(0, .ref (A.1 0)), (1, .int 1), (2, .ref q), (3, .int (nI n)), (4, .int (nI (c + 1)))] [] (rw_O A R' h') (cn + mc') (sn + ms')) : AW G mX7_make (d + 1) mc ms Q 92 [(0, .ref (A.1 0)), (1, .int 1), (2, .ref q), (3, .int (nI n)), (4, .int (nI c))] [] (rw_O A R h) cn sn := by
  refine ax_iload dX7_make_92 rfl ?_
  refine ax_aload_n dX7_make_94 rfl ?_
  refine ax_get (v := .int (nI nc)) dX7_make_95 fkX7_80 (rw_g0 hA) (congrArg (fun z => some (Value.int z)) (h4)) ?_
  refine ax_icmp_ge (tgt := 124) dX7_make_98 (by decide) (fun z => absurd z (il_nle nc c hc)) (fun _ => ?_)
  refine ax_iload_n dX7_make_101 rfl ?_
  refine ax_if_eq (tgt := 124) dX7_make_102 (by decide) (fun z => absurd z (by decide)) (fun _ => ?_)
  refine ax_aload_n dX7_make_105 rfl ?_
  refine ax_iload dX7_make_106 rfl ?_
  refine ax_aload_n dX7_make_108 rfl ?_
  refine ax_get (v := .int (nI s)) dX7_make_109 fkX7_130 (rw_g0 hA) (congrArg (fun z => some (Value.int z)) (h13)) ?_
  refine ax_iconst (v := 1) dX7_make_112 (by decide) ?_
  refine ax_iadd dX7_make_113 ?_
  refine ax_top (y := (nI (s + 1))) (nI_1 s) ?_
  refine ax_callV (b := (A.1 0)) (av := [.int (nI c), .int (nI (s + 1))]) (rest := []) (mc' := mc') (ms' := ms') dX7_make_114 rfl lkX7_133 (rw_g0 hA) rfl (Nat.le_of_ble_eq_true rfl) (Nat.le_of_ble_eq_true rfl) hb1 hb2 (hwr) (fun E9 h9 q9 => by obtain ⟨R', h', -, (⟨e9, -⟩ | ⟨e9, -⟩)⟩ := q9 <;> cases e9) (fun v9 h9 q9 => ?_)
  obtain ⟨R', h', rfl, (⟨e9, o⟩ | ⟨e9, o⟩)⟩ := q9
  · cases e9
    have kk := k0 R' h' o
    show AW G mX7_make (d + 1) mc ms _ 117 [(0, .ref (A.1 0)), (1, .int 1), (2, .ref q), (3, .int (nI n)), (4, .int (nI c))] [.int 0] (rw_O A R' h') (cn + mc') (sn + ms')
    refine ax_istore_n dX7_make_117 (by decide) ?_
    refine ax_sub (lv' := [(0, .ref (A.1 0)), (1, .int 0), (2, .ref q), (3, .int (nI n)), (4, .int (nI c))]) (fun _ z => z) ?_
    refine ax_iinc (v := (nI (c + 1))) dX7_make_118 rfl (nI_1 c) (by decide) ?_
    refine ax_sub (lv' := [(0, .ref (A.1 0)), (1, .int 0), (2, .ref q), (3, .int (nI n)), (4, .int (nI (c + 1)))]) (fun _ z => z) ?_
    refine ax_goto (tgt := 92) dX7_make_121 (by decide) ?_
    exact kk
  · cases e9
    have kk := k1 R' h' o
    show AW G mX7_make (d + 1) mc ms _ 117 [(0, .ref (A.1 0)), (1, .int 1), (2, .ref q), (3, .int (nI n)), (4, .int (nI c))] [.int 1] (rw_O A R' h') (cn + mc') (sn + ms')
    refine ax_istore_n dX7_make_117 (by decide) ?_
    refine ax_sub (lv' := [(0, .ref (A.1 0)), (1, .int 1), (2, .ref q), (3, .int (nI n)), (4, .int (nI c))]) (fun _ z => z) ?_
    refine ax_iinc (v := (nI (c + 1))) dX7_make_118 rfl (nI_1 c) (by decide) ?_
    refine ax_sub (lv' := [(0, .ref (A.1 0)), (1, .int 1), (2, .ref q), (3, .int (nI n)), (4, .int (nI (c + 1)))]) (fun _ z => z) ?_
    refine ax_goto (tgt := 92) dX7_make_121 (by decide) ?_
    exact kk
theorem mk_up (hA : rw_nd A) (d mc ms : Nat) (R : rw_S) (h : ax_H) {cn sn : Nat} (hcn : cn ≤ mc) (hsn : sn ≤ ms) {q n c s : Nat} (h13 : R.1 13 = nI s) {Q : ax_P} (kk : AW G mX7_make (d + 1) mc ms Q 45 [(0, .ref (A.1 0)), (1, .int 1)] [] (rw_O A (rw_setS R 13 (nI (s + 1))) h) cn sn) : AW G mX7_make (d + 1) mc ms Q 124 [(0, .ref (A.1 0)), (1, .int 1), (2, .ref q), (3, .int (nI n)), (4, .int (nI c))] [] (rw_O A R h) cn sn := by
  refine ax_iload_n dX7_make_124 rfl ?_
  refine ax_if_eq (tgt := 141) dX7_make_125 (by decide) (fun z => absurd z (by decide)) (fun _ => ?_)
  refine ax_aload_n dX7_make_128 rfl ?_
  refine ax_dup dX7_make_129 rfl ?_
  refine ax_get (v := .int (nI s)) dX7_make_130 fkX7_130 (rw_g0 hA) (congrArg (fun z => some (Value.int z)) (h13)) ?_
  refine ax_iconst (v := 1) dX7_make_133 (by decide) ?_
  refine ax_iadd dX7_make_134 ?_
  refine ax_top (y := (nI (s + 1))) (nI_1 s) ?_
  refine ax_put dX7_make_135 fpX7_130 (rw_g0 hA) rfl rfl (Nat.le_of_ble_eq_true rfl) ?_
  refine ax_eqh (rw_ps13 hA) ?_
  refine ax_goto (tgt := 172) dX7_make_138 (by decide) ?_
  refine ax_goto (tgt := 45) dX7_make_172 (by decide) ?_
  exact ax_sub (fun x hx => List.mem_append_left [(2, Value.ref q), (3, Value.int (nI n)), (4, Value.int (nI c))] hx) kk
theorem mk_dn (hA : rw_nd A) (d mc ms : Nat) (R : rw_S) (h : ax_H) {cn sn : Nat} (hcn : cn ≤ mc) (hsn : sn ≤ ms) {q n c : Nat} {f : Nat → Int32} (hq : rw_at A h q (.inl (0, 4, .inl f))) {Q : ax_P} (kk : ∀ R1 : rw_S, R1.1 = upd R.1 14 (nI n) → R1.2.2 = R.2.2 → (∀ i, i ≠ 8 → R1.2.1 i = R.2.1 i) → (∀ t, t < 4 → R1.2.1 8 t = f t) → AW G mX7_make (d + 1) mc ms Q 45 [(0, .ref (A.1 0)), (1, .int 0)] [] (rw_O A R1 h) cn sn) : AW G mX7_make (d + 1) mc ms Q 124 [(0, .ref (A.1 0)), (1, .int 0), (2, .ref q), (3, .int (nI n)), (4, .int (nI c))] [] (rw_O A R h) cn sn := by
  refine ax_iload_n dX7_make_124 rfl ?_
  refine ax_if_eq (tgt := 141) dX7_make_125 (by decide) (fun _ => ?_) (fun z => absurd rfl z)
  refine ax_aload_n dX7_make_141 rfl ?_
  refine ax_iload_n dX7_make_142 rfl ?_
  refine ax_put dX7_make_143 fpX7_127 (rw_g0 hA) rfl rfl (Nat.le_of_ble_eq_true rfl) ?_
  refine ax_eqh (rw_ps14 hA) ?_
  refine ax_iconst (v := 0) dX7_make_146 (by decide) ?_
  refine ax_istore dX7_make_147 (by decide) ?_
  refine ax_sub (lv' := [(0, .ref (A.1 0)), (1, .int 0), (2, .ref q), (3, .int (nI n)), (4, .int 0)]) (fun _ z => z) ?_
  refine ax_iload dX7_make_149 rfl ?_
  refine ax_iconst (v := 4) dX7_make_151 (by decide) ?_
  refine ax_icmp_ge (tgt := 172) dX7_make_152 (by decide) (fun z => absurd z (by decide)) (fun _ => ?_)
  refine ax_aload_n dX7_make_155 rfl ?_
  refine ax_get (v := .ref (A.1 8)) dX7_make_156 fkX7_40 (rw_g0 hA) rfl ?_
  refine ax_iload dX7_make_159 rfl ?_
  refine ax_aload_n dX7_make_161 rfl ?_
  refine ax_iload dX7_make_162 rfl ?_
  refine ax_iald dX7_make_164 (rw_rd hq) (by unfold vp_in; decide) ?_
  refine ax_iast dX7_make_165 (rw_g8 hA) (by unfold vp_in; decide) ?_
  refine ax_eqh (rw_pa8 hA) ?_
  refine ax_iinc (v := 1) dX7_make_166 rfl (by decide) (by decide) ?_
  refine ax_sub (lv' := [(0, .ref (A.1 0)), (1, .int 0), (2, .ref q), (3, .int (nI n)), (4, .int 1)]) (fun _ z => z) ?_
  refine ax_goto (tgt := 149) dX7_make_169 (by decide) ?_
  refine ax_iload dX7_make_149 rfl ?_
  refine ax_iconst (v := 4) dX7_make_151 (by decide) ?_
  refine ax_icmp_ge (tgt := 172) dX7_make_152 (by decide) (fun z => absurd z (by decide)) (fun _ => ?_)
  refine ax_aload_n dX7_make_155 rfl ?_
  refine ax_get (v := .ref (A.1 8)) dX7_make_156 fkX7_40 (rw_g0 hA) rfl ?_
  refine ax_iload dX7_make_159 rfl ?_
  refine ax_aload_n dX7_make_161 rfl ?_
  refine ax_iload dX7_make_162 rfl ?_
  refine ax_iald dX7_make_164 (rw_rd hq) (by unfold vp_in; decide) ?_
  refine ax_iast dX7_make_165 (rw_g8 hA) (by unfold vp_in; decide) ?_
  refine ax_eqh (rw_pa8 hA) ?_
  refine ax_iinc (v := 2) dX7_make_166 rfl (by decide) (by decide) ?_
  refine ax_sub (lv' := [(0, .ref (A.1 0)), (1, .int 0), (2, .ref q), (3, .int (nI n)), (4, .int 2)]) (fun _ z => z) ?_
  refine ax_goto (tgt := 149) dX7_make_169 (by decide) ?_
  refine ax_iload dX7_make_149 rfl ?_
  refine ax_iconst (v := 4) dX7_make_151 (by decide) ?_
  refine ax_icmp_ge (tgt := 172) dX7_make_152 (by decide) (fun z => absurd z (by decide)) (fun _ => ?_)
  refine ax_aload_n dX7_make_155 rfl ?_
  refine ax_get (v := .ref (A.1 8)) dX7_make_156 fkX7_40 (rw_g0 hA) rfl ?_
  refine ax_iload dX7_make_159 rfl ?_
  refine ax_aload_n dX7_make_161 rfl ?_
  refine ax_iload dX7_make_162 rfl ?_
  refine ax_iald dX7_make_164 (rw_rd hq) (by unfold vp_in; decide) ?_
  refine ax_iast dX7_make_165 (rw_g8 hA) (by unfold vp_in; decide) ?_
  refine ax_eqh (rw_pa8 hA) ?_
  refine ax_iinc (v := 3) dX7_make_166 rfl (by decide) (by decide) ?_
  refine ax_sub (lv' := [(0, .ref (A.1 0)), (1, .int 0), (2, .ref q), (3, .int (nI n)), (4, .int 3)]) (fun _ z => z) ?_
  refine ax_goto (tgt := 149) dX7_make_169 (by decide) ?_
  refine ax_iload dX7_make_149 rfl ?_
  refine ax_iconst (v := 4) dX7_make_151 (by decide) ?_
  refine ax_icmp_ge (tgt := 172) dX7_make_152 (by decide) (fun z => absurd z (by decide)) (fun _ => ?_)
  refine ax_aload_n dX7_make_155 rfl ?_
  refine ax_get (v := .ref (A.1 8)) dX7_make_156 fkX7_40 (rw_g0 hA) rfl ?_
  refine ax_iload dX7_make_159 rfl ?_
  refine ax_aload_n dX7_make_161 rfl ?_
  refine ax_iload dX7_make_162 rfl ?_
  refine ax_iald dX7_make_164 (rw_rd hq) (by unfold vp_in; decide) ?_
  refine ax_iast dX7_make_165 (rw_g8 hA) (by unfold vp_in; decide) ?_
  refine ax_eqh (rw_pa8 hA) ?_
  refine ax_iinc (v := 4) dX7_make_166 rfl (by decide) (by decide) ?_
  refine ax_sub (lv' := [(0, .ref (A.1 0)), (1, .int 0), (2, .ref q), (3, .int (nI n)), (4, .int 4)]) (fun _ z => z) ?_
  refine ax_goto (tgt := 149) dX7_make_169 (by decide) ?_
  refine ax_iload dX7_make_149 rfl ?_
  refine ax_iconst (v := 4) dX7_make_151 (by decide) ?_
  refine ax_icmp_ge (tgt := 172) dX7_make_152 (by decide) (fun _ => ?_) (fun z => absurd (by decide) z)
  refine ax_goto (tgt := 45) dX7_make_172 (by decide) ?_
  refine ax_sub (fun x hx => List.mem_append_left [(2, Value.ref q), (3, Value.int (nI n)), (4, Value.int 4)] hx) (kk _ rfl rfl (fun x hx => (va_up_ne _ _ hx).trans ((va_up_ne _ _ hx).trans ((va_up_ne _ _ hx).trans (va_up_ne _ _ hx)))) (fun t ht => ?_))
  rcases (show t = 0 ∨ t = 1 ∨ t = 2 ∨ t = 3 by omega) with rfl | rfl | rfl | rfl <;> rfl
end RMK
