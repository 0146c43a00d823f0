/-! ===== the reference: addConstructor, the constructor written ===== -/
section RP14
variable {G : ax_G} {A : rw_Ad}
set_option maxRecDepth 100000 in
set_option maxHeartbeats 4000000 in
theorem ac_put (hA : rw_nd A) (d : Nat) (R : rw_S) (h : ax_H) {n x : Nat} {f : Nat → Int32} (hx : ∀ R', rw_O A R' h x = some (.inl (0, 3, .inl f))) (e4 : R.1 4 = nI n) (hn : n < 6) {t a b c k N F i : Int32} {Q : ax_P} (hq : ∀ R' : rw_S, R'.1 1 = R.1 1 → R'.1 2 = R.1 2 → R'.1 3 = R.1 3 → R'.1 4 = nI (n + 1) → R'.1 8 = R.1 8 → R'.1 12 = 0 → R'.1 10 = -1 → R'.1 0 = R.1 0 → R'.2.1 4 = R.2.1 4 → R'.2.1 1 = upd (R.2.1 1) (nI n).toNatClampNeg t → R'.2.1 2 = upd (upd (upd (R.2.1 2) (nI (3 * n + 0)).toNatClampNeg (f 0)) (nI (3 * n + 1)).toNatClampNeg (f 1)) (nI (3 * n + 2)).toNatClampNeg (f 2) → R'.2.1 3 = upd (R.2.1 3) (nI n).toNatClampNeg k → Q (.inl (some (.int (nI n)))) (rw_O A R' h)) : AW G mX7_addConstructor (d + 48) 1 3 Q 183 [(0, .ref (A.1 0)), (1, .int t), (2, .int a), (3, .int b), (4, .int c), (5, .int k), (6, .ref x), (7, .int N), (8, .int F), (9, .int i)] [] (rw_O A R h) 1 3 := by
  refine ax_aload_n dX7_addConstructor_183 rfl ?_
  refine ax_get (v := .int (nI n)) dX7_addConstructor_184 fkX7_80 (rw_g0 hA) (congrArg (fun z => some (Value.int z)) (e4)) ?_
  refine ax_bipush (v := 6) dX7_addConstructor_187 (by decide) ?_
  refine ax_icmp_ne (tgt := 198) dX7_addConstructor_189 (by decide) (fun _ => ?_) (fun z => absurd z (il_ne n 6 (by omega)))
  refine ax_aload_n dX7_addConstructor_198 rfl ?_
  refine ax_get (v := .ref (A.1 1)) dX7_addConstructor_199 fkX7_13 (rw_g0 hA) rfl ?_
  refine ax_aload_n dX7_addConstructor_202 rfl ?_
  refine ax_get (v := .int (nI n)) dX7_addConstructor_203 fkX7_80 (rw_g0 hA) (congrArg (fun z => some (Value.int z)) (e4)) ?_
  refine ax_iload_n dX7_addConstructor_206 rfl ?_
  refine ax_iast dX7_addConstructor_207 (rw_g1 hA) (nI_in (by omega) (by decide)) ?_
  refine ax_eqh (rw_pa1 hA) ?_
  refine ax_iconst (v := 0) dX7_addConstructor_208 (by decide) ?_
  refine ax_istore dX7_addConstructor_209 (by decide) ?_
  refine ax_sub (lv' := [(0, .ref (A.1 0)), (1, .int t), (2, .int a), (3, .int b), (4, .int c), (5, .int k), (6, .ref x), (7, .int N), (8, .int F), (9, .int 0)]) (fun _ z => z) ?_
  refine ax_iload dX7_addConstructor_211 rfl ?_
  refine ax_iconst (v := 3) dX7_addConstructor_213 (by decide) ?_
  refine ax_icmp_ge (tgt := 242) dX7_addConstructor_214 (by decide) (fun z => absurd z (by decide)) (fun _ => ?_)
  refine ax_aload_n dX7_addConstructor_217 rfl ?_
  refine ax_get (v := .ref (A.1 2)) dX7_addConstructor_218 fkX7_17 (rw_g0 hA) rfl ?_
  refine ax_iconst (v := 3) dX7_addConstructor_221 (by decide) ?_
  refine ax_aload_n dX7_addConstructor_222 rfl ?_
  refine ax_get (v := .int (nI n)) dX7_addConstructor_223 fkX7_80 (rw_g0 hA) (congrArg (fun z => some (Value.int z)) (e4)) ?_
  refine ax_imul dX7_addConstructor_226 ?_
  refine ax_top (y := (nI (3 * n))) ((pk_mul 3 n)) ?_
  refine ax_iload dX7_addConstructor_227 rfl ?_
  refine ax_iadd dX7_addConstructor_229 ?_
  refine ax_top (y := (nI (3 * n + 0))) (nI_add _ 0) ?_
  refine ax_aload dX7_addConstructor_230 rfl ?_
  refine ax_iload dX7_addConstructor_232 rfl ?_
  refine ax_ialdv (x := (f 0)) dX7_addConstructor_234 (hx _) (by unfold vp_in; decide) (rfl) ?_
  refine ax_iast dX7_addConstructor_235 (rw_g2 hA) (nI_in (by omega) (by decide)) ?_
  refine ax_eqh (rw_pa2 hA) ?_
  refine ax_iinc (v := 1) dX7_addConstructor_236 rfl (by decide) (by decide) ?_
  refine ax_sub (lv' := [(0, .ref (A.1 0)), (1, .int t), (2, .int a), (3, .int b), (4, .int c), (5, .int k), (6, .ref x), (7, .int N), (8, .int F), (9, .int 1)]) (fun _ z => z) ?_
  refine ax_goto (tgt := 211) dX7_addConstructor_239 (by decide) ?_
  refine ax_iload dX7_addConstructor_211 rfl ?_
  refine ax_iconst (v := 3) dX7_addConstructor_213 (by decide) ?_
  refine ax_icmp_ge (tgt := 242) dX7_addConstructor_214 (by decide) (fun z => absurd z (by decide)) (fun _ => ?_)
  refine ax_aload_n dX7_addConstructor_217 rfl ?_
  refine ax_get (v := .ref (A.1 2)) dX7_addConstructor_218 fkX7_17 (rw_g0 hA) rfl ?_
  refine ax_iconst (v := 3) dX7_addConstructor_221 (by decide) ?_
  refine ax_aload_n dX7_addConstructor_222 rfl ?_
  refine ax_get (v := .int (nI n)) dX7_addConstructor_223 fkX7_80 (rw_g0 hA) (congrArg (fun z => some (Value.int z)) (e4)) ?_
  refine ax_imul dX7_addConstructor_226 ?_
  refine ax_top (y := (nI (3 * n))) ((pk_mul 3 n)) ?_
  refine ax_iload dX7_addConstructor_227 rfl ?_
  refine ax_iadd dX7_addConstructor_229 ?_
  refine ax_top (y := (nI (3 * n + 1))) (nI_add _ 1) ?_
  refine ax_aload dX7_addConstructor_230 rfl ?_
  refine ax_iload dX7_addConstructor_232 rfl ?_
  refine ax_ialdv (x := (f 1)) dX7_addConstructor_234 (hx _) (by unfold vp_in; decide) (rfl) ?_
  refine ax_iast dX7_addConstructor_235 (rw_g2 hA) (nI_in (by omega) (by decide)) ?_
  refine ax_eqh (rw_pa2 hA) ?_
  refine ax_iinc (v := 2) dX7_addConstructor_236 rfl (by decide) (by decide) ?_
  refine ax_sub (lv' := [(0, .ref (A.1 0)), (1, .int t), (2, .int a), (3, .int b), (4, .int c), (5, .int k), (6, .ref x), (7, .int N), (8, .int F), (9, .int 2)]) (fun _ z => z) ?_
  refine ax_goto (tgt := 211) dX7_addConstructor_239 (by decide) ?_
  refine ax_iload dX7_addConstructor_211 rfl ?_
  refine ax_iconst (v := 3) dX7_addConstructor_213 (by decide) ?_
  refine ax_icmp_ge (tgt := 242) dX7_addConstructor_214 (by decide) (fun z => absurd z (by decide)) (fun _ => ?_)
  refine ax_aload_n dX7_addConstructor_217 rfl ?_
  refine ax_get (v := .ref (A.1 2)) dX7_addConstructor_218 fkX7_17 (rw_g0 hA) rfl ?_
  refine ax_iconst (v := 3) dX7_addConstructor_221 (by decide) ?_
  refine ax_aload_n dX7_addConstructor_222 rfl ?_
  refine ax_get (v := .int (nI n)) dX7_addConstructor_223 fkX7_80 (rw_g0 hA) (congrArg (fun z => some (Value.int z)) (e4)) ?_
  refine ax_imul dX7_addConstructor_226 ?_
  refine ax_top (y := (nI (3 * n))) ((pk_mul 3 n)) ?_
  refine ax_iload dX7_addConstructor_227 rfl ?_
  refine ax_iadd dX7_addConstructor_229 ?_
  refine ax_top (y := (nI (3 * n + 2))) (nI_add _ 2) ?_
  refine ax_aload dX7_addConstructor_230 rfl ?_
  refine ax_iload dX7_addConstructor_232 rfl ?_
  refine ax_ialdv (x := (f 2)) dX7_addConstructor_234 (hx _) (by unfold vp_in; decide) (rfl) ?_
  refine ax_iast dX7_addConstructor_235 (rw_g2 hA) (nI_in (by omega) (by decide)) ?_
  refine ax_eqh (rw_pa2 hA) ?_
  refine ax_iinc (v := 3) dX7_addConstructor_236 rfl (by decide) (by decide) ?_
  refine ax_sub (lv' := [(0, .ref (A.1 0)), (1, .int t), (2, .int a), (3, .int b), (4, .int c), (5, .int k), (6, .ref x), (7, .int N), (8, .int F), (9, .int 3)]) (fun _ z => z) ?_
  refine ax_goto (tgt := 211) dX7_addConstructor_239 (by decide) ?_
  refine ax_iload dX7_addConstructor_211 rfl ?_
  refine ax_iconst (v := 3) dX7_addConstructor_213 (by decide) ?_
  refine ax_icmp_ge (tgt := 242) dX7_addConstructor_214 (by decide) (fun _ => ?_) (fun z => absurd (by decide) z)
  refine ax_aload_n dX7_addConstructor_242 rfl ?_
  refine ax_get (v := .ref (A.1 3)) dX7_addConstructor_243 fkX7_20 (rw_g0 hA) rfl ?_
  refine ax_aload_n dX7_addConstructor_246 rfl ?_
  refine ax_get (v := .int (nI n)) dX7_addConstructor_247 fkX7_80 (rw_g0 hA) (congrArg (fun z => some (Value.int z)) (e4)) ?_
  refine ax_iload dX7_addConstructor_250 rfl ?_
  refine ax_iast dX7_addConstructor_252 (rw_g3 hA) (nI_in (by omega) (by decide)) ?_
  refine ax_eqh (rw_pa3 hA) ?_
  refine ax_aload_n dX7_addConstructor_253 rfl ?_
  refine ax_dup dX7_addConstructor_254 rfl ?_
  refine ax_get (v := .int (nI n)) dX7_addConstructor_255 fkX7_80 (rw_g0 hA) (congrArg (fun z => some (Value.int z)) (e4)) ?_
  refine ax_iconst (v := 1) dX7_addConstructor_258 (by decide) ?_
  refine ax_iadd dX7_addConstructor_259 ?_
  refine ax_top (y := (nI (n + 1))) ((nI_1 n)) ?_
  refine ax_put dX7_addConstructor_260 fpX7_80 (rw_g0 hA) rfl rfl (Nat.le_of_ble_eq_true rfl) ?_
  refine ax_eqh (rw_ps4 hA) ?_
  refine ax_aload_n dX7_addConstructor_263 rfl ?_
  refine ax_callV (b := (A.1 0)) (av := []) (rest := []) (mc' := 0) (ms' := 0) dX7_addConstructor_264 rfl lkX7_69 (rw_g0 hA) rfl (Nat.le_of_ble_eq_true rfl) (Nat.le_of_ble_eq_true rfl) (by omega) (by omega) (r_change hA _ (rw_setS (rw_setA (rw_setA (rw_setA (rw_setA (rw_setA R 1 (upd (R.2.1 1) (nI n).toNatClampNeg t)) 2 (upd (R.2.1 2) (nI (3 * n + 0)).toNatClampNeg (f 0))) 2 (upd (upd (R.2.1 2) (nI (3 * n + 0)).toNatClampNeg (f 0)) (nI (3 * n + 1)).toNatClampNeg (f 1))) 2 (upd (upd (upd (R.2.1 2) (nI (3 * n + 0)).toNatClampNeg (f 0)) (nI (3 * n + 1)).toNatClampNeg (f 1)) (nI (3 * n + 2)).toNatClampNeg (f 2))) 3 (upd (R.2.1 3) (nI n).toNatClampNeg k)) 4 (nI (n + 1))) h) (fun E9 h9 q9 => by cases q9.1) (fun v9 h9 q9 => ?_)
  obtain ⟨e9, rfl⟩ := q9
  cases e9
  show AW G mX7_addConstructor (d + 48) 1 3 _ 267 [(0, .ref (A.1 0)), (1, .int t), (2, .int a), (3, .int b), (4, .int c), (5, .int k), (6, .ref x), (7, .int N), (8, .int F), (9, .int 3)] [] (rw_O A (rw_setS (rw_setS (rw_setS (rw_setA (rw_setA (rw_setA (rw_setA (rw_setA R 1 (upd (R.2.1 1) (nI n).toNatClampNeg t)) 2 (upd (R.2.1 2) (nI (3 * n + 0)).toNatClampNeg (f 0))) 2 (upd (upd (R.2.1 2) (nI (3 * n + 0)).toNatClampNeg (f 0)) (nI (3 * n + 1)).toNatClampNeg (f 1))) 2 (upd (upd (upd (R.2.1 2) (nI (3 * n + 0)).toNatClampNeg (f 0)) (nI (3 * n + 1)).toNatClampNeg (f 1)) (nI (3 * n + 2)).toNatClampNeg (f 2))) 3 (upd (R.2.1 3) (nI n).toNatClampNeg k)) 4 (nI (n + 1))) 12 0) 10 (-1)) h) 1 3
  refine ax_aload_n dX7_addConstructor_267 rfl ?_
  refine ax_get (v := .int (nI (n + 1))) dX7_addConstructor_268 fkX7_80 (rw_g0 hA) (congrArg (fun z => some (Value.int z)) (rfl)) ?_
  refine ax_iconst (v := 1) dX7_addConstructor_271 (by decide) ?_
  refine ax_isub dX7_addConstructor_272 ?_
  refine ax_top (y := (nI n)) ((nI_pred _)) ?_
  exact ax_iret (st := []) dX7_addConstructor_273 rfl rfl (hq _ rfl rfl rfl rfl rfl rfl rfl rfl rfl rfl rfl rfl)
end RP14
