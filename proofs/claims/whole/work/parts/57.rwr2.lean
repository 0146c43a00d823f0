/-! ===== the reference: write, a value pushed ===== -/
def w_ps (A : rw_Ad) (R : rw_S) (h : ax_H) (R' : rw_S) (h' : ax_H) (n s ht t cnt : Nat) (L : List Nat) : Prop := R'.1 = upd R.1 14 (nI (n + 1)) ∧ (∃ b, R'.2.2 = va_up R.2.2 n (some b) ∧ rw_row A h' b L) ∧ hx_le h h' ∧ (∀ i, i ≠ 6 → i ≠ 7 → i ≠ 8 → i ≠ 9 → R'.2.1 i = R.2.1 i) ∧ R'.2.1 6 = upd (R.2.1 6) n (nI (s + 1)) ∧ R'.2.1 7 = upd (R.2.1 7) n (nI ht) ∧ R'.2.1 9 = upd (R.2.1 9) (300 * t + cnt) (nI n) ∧ R'.2.1 8 = upd (R.2.1 8) t (nI (cnt + 1))
section RWR2
variable {G : ax_G} {A : rw_Ad}

set_option maxRecDepth 100000 in
set_option maxHeartbeats 4000000 in
theorem w_look (hA : rw_nd A) (d mc ms : Nat) (R : rw_S) (h : ax_H) {cn sn : Nat} (hcn : cn ≤ mc) (hsn : sn ≤ ms) {c s n1 n2 n3 i j k lf rs a1 a2 a3 ra rb rz ln t : Nat} {g : sp_G} {L : List Nat} (hc : c < 6) (hL : L.length ≤ 40) (hln : ln = L.length) (how : R.2.1 1 c = nI t) (hlk : AW G mX7_look d 0 0 (lk_Q A R.2 h g 41 t L 0 R.1) 0 [(0, .ref (A.1 0)), (1, .ref (A.1 10)), (2, .int (nI ln)), (3, .int 0), (4, .int (nI t))] [] (rw_O A R h) 0 0) {Q : ax_P} (kN : ∀ s1, lk_fr R.1 s1 → sp_look g 41 t (L.drop 0) = none → AW G mX7_write (d + 1) mc ms Q 146 [(0, .ref (A.1 0)), (1, .int (nI c)), (2, .int (nI (s + 1))), (3, .ref a1), (4, .ref a2), (5, .ref a3), (6, .ref a1), (7, .int (nI n1)), (8, .int (nI i)), (9, .ref ra), (10, .int (nI lf)), (11, .ref a2), (12, .int (nI n2)), (13, .int (nI j)), (14, .ref rb), (15, .int (nI rs)), (16, .ref a3), (17, .int (nI n3)), (18, .int (nI (k + 1)))] [] (rw_O A (s1, R.2) h) cn sn) (kY : ∀ s1 p, lk_fr R.1 s1 → sp_look g 41 t (L.drop 0) = some p → s1 21 = nI p.1.2.1 → AW G mX7_write (d + 1) mc ms Q 276 [(0, .ref (A.1 0)), (1, .int (nI c)), (2, .int (nI (s + 1))), (3, .ref a1), (4, .ref a2), (5, .ref a3), (6, .ref a1), (7, .int (nI n1)), (8, .int (nI i)), (9, .ref ra), (10, .int (nI lf)), (11, .ref a2), (12, .int (nI n2)), (13, .int (nI j)), (14, .ref rb), (15, .int (nI rs)), (16, .ref a3), (17, .int (nI n3)), (18, .int (nI k)), (19, .ref rz), (20, .int (nI ln))] [] (rw_O A (s1, R.2) h) cn sn) : AW G mX7_write (d + 1) mc ms Q 252 [(0, .ref (A.1 0)), (1, .int (nI c)), (2, .int (nI (s + 1))), (3, .ref a1), (4, .ref a2), (5, .ref a3), (6, .ref a1), (7, .int (nI n1)), (8, .int (nI i)), (9, .ref ra), (10, .int (nI lf)), (11, .ref a2), (12, .int (nI n2)), (13, .int (nI j)), (14, .ref rb), (15, .int (nI rs)), (16, .ref a3), (17, .int (nI n3)), (18, .int (nI k)), (19, .ref rz), (20, .int (nI ln))] [] (rw_O A R h) cn sn := by
  refine ax_aload_n dX7_write_252 rfl ?_
  refine ax_aload_n dX7_write_253 rfl ?_
  refine ax_get (v := .ref (A.1 10)) dX7_write_254 fkX7_46 (rw_g0 hA) rfl ?_
  refine ax_iload dX7_write_257 rfl ?_
  refine ax_iconst (v := 0) dX7_write_259 (by decide) ?_
  refine ax_aload_n dX7_write_260 rfl ?_
  refine ax_get (v := .ref (A.1 1)) dX7_write_261 fkX7_13 (rw_g0 hA) rfl ?_
  refine ax_iload_n dX7_write_264 rfl ?_
  refine ax_ialdv (x := (nI t)) dX7_write_265 (rw_g1 hA) (nI_in hc (by decide)) (by rw [nI_clamp (by omega)]; exact how) ?_
  refine ax_callV (b := (A.1 0)) (av := [.ref (A.1 10), .int (nI ln), .int 0, .int (nI t)]) (rest := []) (mc' := 0) (ms' := 0) dX7_write_266 rfl lkX7_83 (rw_g0 hA) rfl (Nat.le_of_ble_eq_true rfl) (Nat.le_of_ble_eq_true rfl) (by omega) (by omega) (hlk) (fun E9 h9 q9 => by obtain ⟨s1, -, -, (⟨e9, -⟩ | ⟨p, e9, -⟩)⟩ := q9 <;> cases e9) (fun v9 h9 q9 => ?_)
  obtain ⟨s1, rfl, fr, (⟨e9, hno⟩ | ⟨p, e9, hp, h20, h21⟩)⟩ := q9
  · cases e9
    have kk := kN s1 fr hno
    show AW G mX7_write (d + 1) mc ms _ 269 [(0, .ref (A.1 0)), (1, .int (nI c)), (2, .int (nI (s + 1))), (3, .ref a1), (4, .ref a2), (5, .ref a3), (6, .ref a1), (7, .int (nI n1)), (8, .int (nI i)), (9, .ref ra), (10, .int (nI lf)), (11, .ref a2), (12, .int (nI n2)), (13, .int (nI j)), (14, .ref rb), (15, .int (nI rs)), (16, .ref a3), (17, .int (nI n3)), (18, .int (nI k)), (19, .ref rz), (20, .int (nI ln))] [.int (-1)] (rw_O A (s1, R.2) h) cn sn
    refine ax_iconst (v := (-1)) dX7_write_269 (by decide) ?_
    refine ax_icmp_ne (tgt := 276) dX7_write_270 (by decide) (fun z => absurd rfl z) (fun _ => ?_)
    refine ax_goto (tgt := 400) dX7_write_273 (by decide) ?_
    refine ax_iinc (v := (nI (k + 1))) dX7_write_400 rfl (nI_1 k) (by decide) ?_
    refine ax_sub (lv' := [(0, .ref (A.1 0)), (1, .int (nI c)), (2, .int (nI (s + 1))), (3, .ref a1), (4, .ref a2), (5, .ref a3), (6, .ref a1), (7, .int (nI n1)), (8, .int (nI i)), (9, .ref ra), (10, .int (nI lf)), (11, .ref a2), (12, .int (nI n2)), (13, .int (nI j)), (14, .ref rb), (15, .int (nI rs)), (16, .ref a3), (17, .int (nI n3)), (18, .int (nI (k + 1))), (19, .ref rz), (20, .int (nI ln))]) (fun _ z => z) ?_
    refine ax_goto (tgt := 146) dX7_write_403 (by decide) ?_
    exact ax_sub (fun q hq => List.mem_append_left [(19, .ref rz), (20, .int (nI ln))] hq) kk
  · cases e9
    have kk := kY s1 p fr hp h21
    show AW G mX7_write (d + 1) mc ms _ 269 [(0, .ref (A.1 0)), (1, .int (nI c)), (2, .int (nI (s + 1))), (3, .ref a1), (4, .ref a2), (5, .ref a3), (6, .ref a1), (7, .int (nI n1)), (8, .int (nI i)), (9, .ref ra), (10, .int (nI lf)), (11, .ref a2), (12, .int (nI n2)), (13, .int (nI j)), (14, .ref rb), (15, .int (nI rs)), (16, .ref a3), (17, .int (nI n3)), (18, .int (nI k)), (19, .ref rz), (20, .int (nI ln))] [.int (nI (L.length - p.2.length))] (rw_O A (s1, R.2) h) cn sn
    refine ax_iconst (v := (-1)) dX7_write_269 (by decide) ?_
    refine ax_icmp_ne (tgt := 276) dX7_write_270 (by decide) (fun _ => ?_) (fun z => absurd z (nI_m1 (by omega)))
    exact kk
theorem w_over (hA : rw_nd A) (d mc ms : Nat) (R : rw_S) (h : ax_H) {cn sn : Nat} (hcn : cn ≤ mc) (hsn : sn ≤ ms) {c s n1 n2 n3 i j k lf rs a1 a2 a3 ra rb rz ln t : Nat} (h14 : R.1 14 = nI 300) {Q : ax_P} (hq : Q (.inl (some (.int 0))) (rw_O A R h)) : AW G mX7_write (d + 1) mc ms Q 276 [(0, .ref (A.1 0)), (1, .int (nI c)), (2, .int (nI (s + 1))), (3, .ref a1), (4, .ref a2), (5, .ref a3), (6, .ref a1), (7, .int (nI n1)), (8, .int (nI i)), (9, .ref ra), (10, .int (nI lf)), (11, .ref a2), (12, .int (nI n2)), (13, .int (nI j)), (14, .ref rb), (15, .int (nI rs)), (16, .ref a3), (17, .int (nI n3)), (18, .int (nI k)), (19, .ref rz), (20, .int (nI ln))] [] (rw_O A R h) cn sn := by
  refine ax_aload_n dX7_write_276 rfl ?_
  refine ax_get (v := .int (nI 300)) dX7_write_277 fkX7_127 (rw_g0 hA) (congrArg (fun z => some (Value.int z)) (h14)) ?_
  refine ax_sipush (v := 300) dX7_write_280 (by decide) ?_
  refine ax_icmp_ne (tgt := 288) dX7_write_283 (by decide) (fun z => absurd (by decide) z) (fun _ => ?_)
  refine ax_iconst (v := 0) dX7_write_286 (by decide) ?_
  exact ax_iret (st := []) dX7_write_287 rfl rfl hq

set_option maxRecDepth 100000 in
set_option maxHeartbeats 4000000 in
theorem w_push (hA : rw_nd A) (d mc ms : Nat) (R : rw_S) (h : ax_H) {cn sn : Nat} (hcn : cn ≤ mc) (hsn : sn ≤ ms) {c s n1 n2 n3 i j k lf rs a1 a2 a3 ra rb rz ln t : Nat} {n ht cnt : Nat} {L : List Nat} (hc : c < 6) (hL : L.length ≤ 40) (hln : ln = L.length) (hsc : ∀ i x, L[i]? = some x → R.2.1 10 i = nI x) (how : R.2.1 1 c = nI t) (ht4 : t < 4) (h14 : R.1 14 = nI n) (hn : n < 300) (h21 : R.1 21 = nI ht) (hcnt : R.2.1 8 t = nI cnt) (hcn3 : cnt < 300) (hs7 : s ≤ 7) (hb1 : cn + 1 ≤ mc) (hb2 : sn + ln ≤ ms) {Q : ax_P} (kk : ∀ R' h', w_ps A R h R' h' n s ht t cnt L → AW G mX7_write (d + 1) mc ms Q 146 [(0, .ref (A.1 0)), (1, .int (nI c)), (2, .int (nI (s + 1))), (3, .ref a1), (4, .ref a2), (5, .ref a3), (6, .ref a1), (7, .int (nI n1)), (8, .int (nI i)), (9, .ref ra), (10, .int (nI lf)), (11, .ref a2), (12, .int (nI n2)), (13, .int (nI j)), (14, .ref rb), (15, .int (nI rs)), (16, .ref a3), (17, .int (nI n3)), (18, .int (nI (k + 1)))] [] (rw_O A R' h') (cn + 1) (sn + ln)) : AW G mX7_write (d + 1) mc ms Q 276 [(0, .ref (A.1 0)), (1, .int (nI c)), (2, .int (nI (s + 1))), (3, .ref a1), (4, .ref a2), (5, .ref a3), (6, .ref a1), (7, .int (nI n1)), (8, .int (nI i)), (9, .ref ra), (10, .int (nI lf)), (11, .ref a2), (12, .int (nI n2)), (13, .int (nI j)), (14, .ref rb), (15, .int (nI rs)), (16, .ref a3), (17, .int (nI n3)), (18, .int (nI k)), (19, .ref rz), (20, .int (nI ln))] [] (rw_O A R h) cn sn := by
  refine ax_aload_n dX7_write_276 rfl ?_
  refine ax_get (v := .int (nI n)) dX7_write_277 fkX7_127 (rw_g0 hA) (congrArg (fun z => some (Value.int z)) h14) ?_
  refine ax_sipush (v := 300) dX7_write_280 (by decide) ?_
  refine ax_icmp_ne (tgt := 288) dX7_write_283 (by decide) (fun _ => ?_) (fun z => absurd z (il_ne n 300 (by omega)))
  refine ax_aload_n dX7_write_288 rfl ?_
  refine ax_get (v := .ref (A.1 5)) dX7_write_289 fkX7_30 (rw_g0 hA) rfl ?_
  refine ax_aload_n dX7_write_292 rfl ?_
  refine ax_get (v := .int (nI n)) dX7_write_293 fkX7_127 (rw_g0 hA) (congrArg (fun z => some (Value.int z)) h14) ?_
  refine ax_iload dX7_write_296 rfl ?_
  refine ax_newa_int (N := ln) dX7_write_298 ax_aI (nI_pos (by omega)) (nI_clamp (by omega)) (by omega) hb1 hb2 (fun b hb => ?_)
  obtain ⟨b1, b2⟩ := rw_new hA hb
  refine ax_eqh (rw_up b1) ?_
  have hbt : rw_at A (va_up h b (some (.inl (0, ln, .inl (fun _ => 0))))) b (.inl (0, ln, .inl (fun _ => 0))) := ⟨ax_up_s, b1⟩
  refine ax_aast4 dX7_write_300 (rw_g5 hA) (rw_rd hbt) (nI_in hn (by decide)) ?_
  refine ax_eqh (rw_pc hA) ?_
  obtain ⟨R5, hR5⟩ : ∃ R5, R5 = rw_setC R (va_up R.2.2 (nI n).toNatClampNeg (some b)) := ⟨_, rfl⟩
  rw [← hR5]
  have h14' : R5.1 14 = nI n := by rw [hR5]; exact h14
  have hcd' : R5.2.2 (nI n).toNatClampNeg = some b := by rw [hR5]; exact va_up_self _ _ _
  have h10' : R5.2.1 10 = R.2.1 10 := by rw [hR5]; rfl
  refine ax_aload_n dX7_write_301 rfl ?_
  refine ax_get (v := .ref (A.1 10)) dX7_write_302 fkX7_46 (rw_g0 hA) rfl ?_
  refine ax_iconst (v := 0) dX7_write_305 (by decide) ?_
  refine ax_aload_n dX7_write_306 rfl ?_
  refine ax_get (v := .ref (A.1 5)) dX7_write_307 fkX7_30 (rw_g0 hA) rfl ?_
  refine ax_aload_n dX7_write_310 rfl ?_
  refine ax_get (v := .int (nI n)) dX7_write_311 fkX7_127 (rw_g0 hA) (congrArg (fun z => some (Value.int z)) h14') ?_
  refine ax_raald dX7_write_314 (rw_g5 hA) (nI_in hn (by decide)) (w := b) hcd' ?_
  refine ax_iconst (v := 0) dX7_write_315 (by decide) ?_
  refine ax_iload dX7_write_316 rfl ?_
  refine ax_copy dX7_write_318 mlX7_121 ax_cN ax_cS ax_iSys (Nat.le_of_ble_eq_true rfl) (rw_g10 hA) (rw_rd hbt) (by decide) (by decide) (nI_pos (by omega)) (by rw [nI_clamp (by omega)]; show 0 + ln ≤ 40; omega) (by rw [nI_clamp (by omega)]; exact Nat.le_of_eq (Nat.zero_add _)) ?_
  refine ax_eqh (rw_up b1) ?_
  obtain ⟨h4, hh4⟩ : ∃ h4, h4 = va_up (va_up h b (some (.inl (0, ln, .inl (fun _ => 0))))) b (some (.inl (0, ln, .inl (va_cpy (R5.2.1 10) (fun _ => 0) (0 : Int32).toNatClampNeg (0 : Int32).toNatClampNeg (nI ln).toNatClampNeg)))) := ⟨_, rfl⟩
  have hle : hx_le h h4 := fun x o z => by
    have hxb : x ≠ b := fun e => by rw [e, b2] at z; cases z
    rw [hh4, ax_up_n hxb, ax_up_n hxb]; exact z
  have hrow : rw_row A h4 b L := by
    refine ⟨_, ⟨by rw [hh4, ax_up_s, hln], b1⟩, fun i x hi => ?_⟩
    have hil := (List.getElem?_eq_some_iff.mp hi).1
    rw [nI_clamp (by omega), show (0 : Int32).toNatClampNeg = 0 by decide, pk_cpy_in (by omega) (by omega), h10', show 0 + (i - 0) = i by omega]
    exact hsc i x hi
  refine ax_eqh (congrArg (rw_O A R5) hh4.symm) ?_
  rw [hR5]
  show AW G mX7_write (d + 1) mc ms Q 321 [(0, .ref (A.1 0)), (1, .int (nI c)), (2, .int (nI (s + 1))), (3, .ref a1), (4, .ref a2), (5, .ref a3), (6, .ref a1), (7, .int (nI n1)), (8, .int (nI i)), (9, .ref ra), (10, .int (nI lf)), (11, .ref a2), (12, .int (nI n2)), (13, .int (nI j)), (14, .ref rb), (15, .int (nI rs)), (16, .ref a3), (17, .int (nI n3)), (18, .int (nI k)), (19, .ref rz), (20, .int (nI ln))] [] (rw_O A (rw_setC R (va_up R.2.2 (nI n).toNatClampNeg (some b))) h4) (cn + 1) (sn + ln)
  refine ax_aload_n dX7_write_321 rfl ?_
  refine ax_get (v := .ref (A.1 6)) dX7_write_322 fkX7_34 (rw_g0 hA) rfl ?_
  refine ax_aload_n dX7_write_325 rfl ?_
  refine ax_get (v := .int (nI n)) dX7_write_326 fkX7_127 (rw_g0 hA) (congrArg (fun z => some (Value.int z)) (h14)) ?_
  refine ax_iload_n dX7_write_329 rfl ?_
  refine ax_iast dX7_write_330 (rw_g6 hA) (nI_in hn (by decide)) ?_
  refine ax_eqh (rw_pa6 hA) ?_
  refine ax_aload_n dX7_write_331 rfl ?_
  refine ax_get (v := .ref (A.1 7)) dX7_write_332 fkX7_37 (rw_g0 hA) rfl ?_
  refine ax_aload_n dX7_write_335 rfl ?_
  refine ax_get (v := .int (nI n)) dX7_write_336 fkX7_127 (rw_g0 hA) (congrArg (fun z => some (Value.int z)) (h14)) ?_
  refine ax_aload_n dX7_write_339 rfl ?_
  refine ax_get (v := .int (nI ht)) dX7_write_340 fkX7_90 (rw_g0 hA) (congrArg (fun z => some (Value.int z)) (h21)) ?_
  refine ax_iast dX7_write_343 (rw_g7 hA) (nI_in hn (by decide)) ?_
  refine ax_eqh (rw_pa7 hA) ?_
  refine ax_aload_n dX7_write_344 rfl ?_
  refine ax_get (v := .ref (A.1 9)) dX7_write_345 fkX7_43 (rw_g0 hA) rfl ?_
  refine ax_sipush (v := 300) dX7_write_348 (by decide) ?_
  refine ax_aload_n dX7_write_351 rfl ?_
  refine ax_get (v := .ref (A.1 1)) dX7_write_352 fkX7_13 (rw_g0 hA) rfl ?_
  refine ax_iload_n dX7_write_355 rfl ?_
  refine ax_ialdv (x := (nI t)) dX7_write_356 (rw_g1 hA) (nI_in hc (by decide)) (by show R.2.1 1 (nI c).toNatClampNeg = nI t; rw [nI_clamp (by omega)]; exact how) ?_
  refine ax_imul dX7_write_357 ?_
  refine ax_top (y := (nI (300 * t))) ((pk_mul 300 t)) ?_
  refine ax_aload_n dX7_write_358 rfl ?_
  refine ax_get (v := .ref (A.1 8)) dX7_write_359 fkX7_40 (rw_g0 hA) rfl ?_
  refine ax_aload_n dX7_write_362 rfl ?_
  refine ax_get (v := .ref (A.1 1)) dX7_write_363 fkX7_13 (rw_g0 hA) rfl ?_
  refine ax_iload_n dX7_write_366 rfl ?_
  refine ax_ialdv (x := (nI t)) dX7_write_367 (rw_g1 hA) (nI_in hc (by decide)) (by show R.2.1 1 (nI c).toNatClampNeg = nI t; rw [nI_clamp (by omega)]; exact how) ?_
  refine ax_ialdv (x := (nI cnt)) dX7_write_368 (rw_g8 hA) (nI_in ht4 (by decide)) (by show R.2.1 8 (nI t).toNatClampNeg = nI cnt; rw [nI_clamp (by omega)]; exact hcnt) ?_
  refine ax_iadd dX7_write_369 ?_
  refine ax_top (y := (nI (300 * t + cnt))) (nI_add _ _) ?_
  refine ax_aload_n dX7_write_370 rfl ?_
  refine ax_get (v := .int (nI n)) dX7_write_371 fkX7_127 (rw_g0 hA) (congrArg (fun z => some (Value.int z)) (h14)) ?_
  refine ax_iast dX7_write_374 (rw_g9 hA) (nI_in (by omega) (by decide)) ?_
  refine ax_eqh (rw_pa9 hA) ?_
  refine ax_aload_n dX7_write_375 rfl ?_
  refine ax_get (v := .ref (A.1 8)) dX7_write_376 fkX7_40 (rw_g0 hA) rfl ?_
  refine ax_aload_n dX7_write_379 rfl ?_
  refine ax_get (v := .ref (A.1 1)) dX7_write_380 fkX7_13 (rw_g0 hA) rfl ?_
  refine ax_iload_n dX7_write_383 rfl ?_
  refine ax_ialdv (x := (nI t)) dX7_write_384 (rw_g1 hA) (nI_in hc (by decide)) (by show R.2.1 1 (nI c).toNatClampNeg = nI t; rw [nI_clamp (by omega)]; exact how) ?_
  refine ax_dup2 dX7_write_385 rfl rfl ?_
  refine ax_ialdv (x := (nI cnt)) dX7_write_386 (rw_g8 hA) (nI_in ht4 (by decide)) (by show R.2.1 8 (nI t).toNatClampNeg = nI cnt; rw [nI_clamp (by omega)]; exact hcnt) ?_
  refine ax_iconst (v := 1) dX7_write_387 (by decide) ?_
  refine ax_iadd dX7_write_388 ?_
  refine ax_top (y := (nI (cnt + 1))) (nI_1 cnt) ?_
  refine ax_iast dX7_write_389 (rw_g8 hA) (nI_in ht4 (by decide)) ?_
  refine ax_eqh (rw_pa8 hA) ?_
  refine ax_aload_n dX7_write_390 rfl ?_
  refine ax_dup dX7_write_391 rfl ?_
  refine ax_get (v := .int (nI n)) dX7_write_392 fkX7_127 (rw_g0 hA) (congrArg (fun z => some (Value.int z)) (h14)) ?_
  refine ax_iconst (v := 1) dX7_write_395 (by decide) ?_
  refine ax_iadd dX7_write_396 ?_
  refine ax_top (y := (nI (n + 1))) (nI_1 n) ?_
  refine ax_put dX7_write_397 fpX7_127 (rw_g0 hA) rfl rfl (Nat.le_of_ble_eq_true rfl) ?_
  refine ax_eqh (rw_ps14 hA) ?_
  refine ax_iinc (v := (nI (k + 1))) dX7_write_400 rfl (nI_1 k) (by decide) ?_
  refine ax_sub (lv' := [(0, .ref (A.1 0)), (1, .int (nI c)), (2, .int (nI (s + 1))), (3, .ref a1), (4, .ref a2), (5, .ref a3), (6, .ref a1), (7, .int (nI n1)), (8, .int (nI i)), (9, .ref ra), (10, .int (nI lf)), (11, .ref a2), (12, .int (nI n2)), (13, .int (nI j)), (14, .ref rb), (15, .int (nI rs)), (16, .ref a3), (17, .int (nI n3)), (18, .int (nI (k + 1))), (19, .ref rz), (20, .int (nI ln))]) (fun _ z => z) ?_
  refine ax_goto (tgt := 146) dX7_write_403 (by decide) ?_
  refine ax_sub (fun q hq => List.mem_append_left [(19, Value.ref rz), (20, Value.int (nI ln))] hq) (kk _ _ ⟨rfl, ⟨b, ?_, hrow⟩, hle, fun x x6 x7 x8 x9 => ?_, ?_, ?_, ?_, ?_⟩)
  · show va_up R.2.2 (nI n).toNatClampNeg (some b) = _; rw [nI_clamp (by omega)]
  · exact (va_up_ne _ _ x8).trans ((va_up_ne _ _ x9).trans ((va_up_ne _ _ x7).trans (va_up_ne _ _ x6)))
  · show upd (R.2.1 6) (nI n).toNatClampNeg _ = _; rw [nI_clamp (by omega)]
  · show upd (R.2.1 7) (nI n).toNatClampNeg _ = _; rw [nI_clamp (by omega)]
  · show upd (R.2.1 9) (nI (300 * t + cnt)).toNatClampNeg _ = _; rw [nI_clamp (by omega)]
  · show upd (R.2.1 8) (nI t).toNatClampNeg _ = _; rw [nI_clamp (by omega)]
end RWR2
