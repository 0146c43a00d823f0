/-! ===== Stock, Told: their constructors ===== -/
theorem vo_a0 (n : Nat) : vo_a n [] = .inl (3, n, .inr (.inr (.inr (.inr (fun _ => none))))) := rfl
def fin3 (b g a : Nat) (vs : List vo_t) (c e f k : Nat) (ws : List vo_t) : List (Nat × ax_E) := (b, .inr (3, [.ref g, .ref a, .ref c, .ref e, .ref f, .ref k, .int 0, .int 0, .int 0, .int 0])) :: ((((a, vo_a 300 vs) :: vo_c vs) ++ [(c, .inl (3, 1200, .inr (.inr (.inr (.inr (fun _ => none)))))), (e, .inl (0, 4, .inl (fun _ => 0))), (f, .inl (0, 36, .inl (fun _ => 0)))]) ++ (k, vo_a 4 ws) :: vo_c ws)
def fin4 (b g a c : Nat) (vs : List vo_t) : List (Nat × ax_E) := (b, .inr (4, [.ref g, .ref a, .ref c, .int 0, .int 0, .int 0])) :: ([(a, .inl (0, 40, .inl (fun _ => 0)))] ++ (c, vo_a 8 vs) :: vo_c vs)
section INI3
variable {G : ax_G}

set_option maxRecDepth 100000 in
set_option maxHeartbeats 4000000 in
theorem in3 (d : Nat) (h : ax_H) (b g : Nat) (hb : h b = none) {Q : ax_P} (hQ : ∀ (a c e f k : Nat) (vs ws : List vo_t), vs.length = 300 → ws.length = 4 → wk h (fin3 b g a vs c e f k ws) → Q (.inl none) (ax_w h (fin3 b g a vs c e f k ws))) : AW G mX3_init (d + 1) 917 8232 Q 0 [(0, .ref b), (1, .ref g)] [] (ax_w h [(b, .inr (3, [.null, .null, .null, .null, .null, .null, .int 0, .int 0, .int 0, .int 0]))]) 0 0 := by
  have w0 : wk h ((b, .inr (3, [.null, .null, .null, .null, .null, .null, .int 0, .int 0, .int 0, .int 0])) :: []) := ⟨by simp, fun x hx => by have : x = b := (by simpa using hx); rw [this]; exact hb⟩
  refine ax_aload_n dX3_init_0 rfl ?_
  refine ax_obj dX3_init_1 oiX3_3 ax_oiI ax_oiC (Nat.le_of_ble_eq_true rfl) ?_
  refine ax_aload_n dX3_init_4 rfl ?_
  refine ax_aload_n dX3_init_5 rfl ?_
  refine ax_wputF (l' := ((b, .inr (3, [.ref g, .null, .null, .null, .null, .null, .int 0, .int 0, .int 0, .int 0])) :: ([]))) 0 w0.1 rfl dX3_init_6 fFX3_9 rfl rfl rfl (Nat.le_of_ble_eq_true rfl) rfl ?_
  have w1 : wk h ((b, .inr (3, [.ref g, .null, .null, .null, .null, .null, .int 0, .int 0, .int 0, .int 0])) :: ([])) := wk_keys w0 rfl
  refine ax_aload_n dX3_init_9 rfl ?_
  refine ax_sipush (v := 300) dX3_init_10 (by decide) ?_
  refine ax_newq3 (N := 300) dX3_init_13 anX3_15 (by decide) (by decide) (by decide) (by omega) (by omega) (fun q2 hq => ?_)
  have w2 : wk h ((b, .inr (3, [.ref g, .null, .null, .null, .null, .null, .int 0, .int 0, .int 0, .int 0])) :: ([(q2, .inl (3, 300, .inr (.inr (.inr (.inr (fun _ => none))))))])) := wk_keys (wk_push (l := ((b, .inr (3, [.ref g, .null, .null, .null, .null, .null, .int 0, .int 0, .int 0, .int 0])) :: ([]))) (.inl (3, 300, .inr (.inr (.inr (.inr (fun _ => none)))))) w1 hq) (by simp)
  refine ax_eqh (show _ = ax_w h ((b, .inr (3, [.ref g, .null, .null, .null, .null, .null, .int 0, .int 0, .int 0, .int 0])) :: ([(q2, .inl (3, 300, .inr (.inr (.inr (.inr (fun _ => none))))))])) from (ax_w_push (l := ((b, .inr (3, [.ref g, .null, .null, .null, .null, .null, .int 0, .int 0, .int 0, .int 0])) :: ([]))) hq).trans (by simp)) ?_
  refine ax_wputF (l' := ((b, .inr (3, [.ref g, .ref q2, .null, .null, .null, .null, .int 0, .int 0, .int 0, .int 0])) :: ([(q2, .inl (3, 300, .inr (.inr (.inr (.inr (fun _ => none))))))]))) 0 w2.1 rfl dX3_init_16 fFX3_17 rfl rfl rfl (Nat.le_of_ble_eq_true rfl) rfl ?_
  have w3 : wk h ((b, .inr (3, [.ref g, .ref q2, .null, .null, .null, .null, .int 0, .int 0, .int 0, .int 0])) :: ([(q2, .inl (3, 300, .inr (.inr (.inr (.inr (fun _ => none))))))])) := wk_keys w2 rfl
  refine ax_iconst (v := 0) dX3_init_19 (by decide) ?_
  refine ax_istore_n dX3_init_20 (by decide) ?_
  refine ax_sub (lv' := [(0, .ref b), (1, .ref g), (2, .int 0)]) (fun _ z => z) ?_
  refine ivl3a d 917 8232 h (A0 := [(b, .inr (3, [.ref g, .ref q2, .null, .null, .null, .null, .int 0, .int 0, .int 0, .int 0]))]) (qa := q2) rfl rfl 300 [] _ _ rfl w3 (by omega) (by omega) (fun vs hvs w19 => ?_)
  obtain ⟨R0, hR0⟩ : ∃ R0, R0 = (q2, vo_a 300 vs) :: vo_c vs := ⟨_, rfl⟩
  have w20 : wk h ((b, .inr (3, [.ref g, .ref q2, .null, .null, .null, .null, .int 0, .int 0, .int 0, .int 0])) :: R0) := by rw [hR0]; exact w19
  refine ax_eqh (show _ = ax_w h ((b, .inr (3, [.ref g, .ref q2, .null, .null, .null, .null, .int 0, .int 0, .int 0, .int 0])) :: R0) by rw [hR0]; rfl) ?_
  refine ax_aload_n dX3_init_49 rfl ?_
  refine ax_sipush (v := 1200) dX3_init_50 (by decide) ?_
  refine ax_newq3 (N := 1200) dX3_init_53 anX3_15 (by decide) (by decide) (by decide) (by omega) (by omega) (fun q21 hq => ?_)
  have w21 : wk h ((b, .inr (3, [.ref g, .ref q2, .null, .null, .null, .null, .int 0, .int 0, .int 0, .int 0])) :: (R0 ++ [(q21, .inl (3, 1200, .inr (.inr (.inr (.inr (fun _ => none))))))])) := wk_keys (wk_push (l := ((b, .inr (3, [.ref g, .ref q2, .null, .null, .null, .null, .int 0, .int 0, .int 0, .int 0])) :: (R0))) (.inl (3, 1200, .inr (.inr (.inr (.inr (fun _ => none)))))) w20 hq) (by simp)
  refine ax_eqh (show _ = ax_w h ((b, .inr (3, [.ref g, .ref q2, .null, .null, .null, .null, .int 0, .int 0, .int 0, .int 0])) :: (R0 ++ [(q21, .inl (3, 1200, .inr (.inr (.inr (.inr (fun _ => none))))))])) from (ax_w_push (l := ((b, .inr (3, [.ref g, .ref q2, .null, .null, .null, .null, .int 0, .int 0, .int 0, .int 0])) :: (R0))) hq).trans (by simp)) ?_
  refine ax_wputF (l' := ((b, .inr (3, [.ref g, .ref q2, .ref q21, .null, .null, .null, .int 0, .int 0, .int 0, .int 0])) :: (R0 ++ [(q21, .inl (3, 1200, .inr (.inr (.inr (.inr (fun _ => none))))))]))) 0 w21.1 rfl dX3_init_56 fFX3_22 rfl rfl rfl (Nat.le_of_ble_eq_true rfl) rfl ?_
  have w22 : wk h ((b, .inr (3, [.ref g, .ref q2, .ref q21, .null, .null, .null, .int 0, .int 0, .int 0, .int 0])) :: (R0 ++ [(q21, .inl (3, 1200, .inr (.inr (.inr (.inr (fun _ => none))))))])) := wk_keys w21 rfl
  refine ax_aload_n dX3_init_59 rfl ?_
  refine ax_iconst (v := 4) dX3_init_60 (by decide) ?_
  refine ax_newa_int (N := 4) dX3_init_61 ax_aI (by decide) (by decide) (by decide) (by omega) (by omega) (fun q23 hq => ?_)
  have w23 : wk h ((b, .inr (3, [.ref g, .ref q2, .ref q21, .null, .null, .null, .int 0, .int 0, .int 0, .int 0])) :: (R0 ++ [(q21, .inl (3, 1200, .inr (.inr (.inr (.inr (fun _ => none)))))), (q23, .inl (0, 4, .inl (fun _ => 0)))])) := wk_keys (wk_push (l := ((b, .inr (3, [.ref g, .ref q2, .ref q21, .null, .null, .null, .int 0, .int 0, .int 0, .int 0])) :: (R0 ++ [(q21, .inl (3, 1200, .inr (.inr (.inr (.inr (fun _ => none))))))]))) (.inl (0, 4, .inl (fun _ => 0))) w22 hq) (by simp)
  refine ax_eqh (show _ = ax_w h ((b, .inr (3, [.ref g, .ref q2, .ref q21, .null, .null, .null, .int 0, .int 0, .int 0, .int 0])) :: (R0 ++ [(q21, .inl (3, 1200, .inr (.inr (.inr (.inr (fun _ => none)))))), (q23, .inl (0, 4, .inl (fun _ => 0)))])) from (ax_w_push (l := ((b, .inr (3, [.ref g, .ref q2, .ref q21, .null, .null, .null, .int 0, .int 0, .int 0, .int 0])) :: (R0 ++ [(q21, .inl (3, 1200, .inr (.inr (.inr (.inr (fun _ => none))))))]))) hq).trans (by simp)) ?_
  refine ax_wputF (l' := ((b, .inr (3, [.ref g, .ref q2, .ref q21, .ref q23, .null, .null, .int 0, .int 0, .int 0, .int 0])) :: (R0 ++ [(q21, .inl (3, 1200, .inr (.inr (.inr (.inr (fun _ => none)))))), (q23, .inl (0, 4, .inl (fun _ => 0)))]))) 0 w23.1 rfl dX3_init_63 fFX3_25 rfl rfl rfl (Nat.le_of_ble_eq_true rfl) rfl ?_
  have w24 : wk h ((b, .inr (3, [.ref g, .ref q2, .ref q21, .ref q23, .null, .null, .int 0, .int 0, .int 0, .int 0])) :: (R0 ++ [(q21, .inl (3, 1200, .inr (.inr (.inr (.inr (fun _ => none)))))), (q23, .inl (0, 4, .inl (fun _ => 0)))])) := wk_keys w23 rfl
  refine ax_aload_n dX3_init_66 rfl ?_
  refine ax_bipush (v := 36) dX3_init_67 (by decide) ?_
  refine ax_newa_int (N := 36) dX3_init_69 ax_aI (by decide) (by decide) (by decide) (by omega) (by omega) (fun q25 hq => ?_)
  have w25 : wk h ((b, .inr (3, [.ref g, .ref q2, .ref q21, .ref q23, .null, .null, .int 0, .int 0, .int 0, .int 0])) :: (R0 ++ [(q21, .inl (3, 1200, .inr (.inr (.inr (.inr (fun _ => none)))))), (q23, .inl (0, 4, .inl (fun _ => 0))), (q25, .inl (0, 36, .inl (fun _ => 0)))])) := wk_keys (wk_push (l := ((b, .inr (3, [.ref g, .ref q2, .ref q21, .ref q23, .null, .null, .int 0, .int 0, .int 0, .int 0])) :: (R0 ++ [(q21, .inl (3, 1200, .inr (.inr (.inr (.inr (fun _ => none)))))), (q23, .inl (0, 4, .inl (fun _ => 0)))]))) (.inl (0, 36, .inl (fun _ => 0))) w24 hq) (by simp)
  refine ax_eqh (show _ = ax_w h ((b, .inr (3, [.ref g, .ref q2, .ref q21, .ref q23, .null, .null, .int 0, .int 0, .int 0, .int 0])) :: (R0 ++ [(q21, .inl (3, 1200, .inr (.inr (.inr (.inr (fun _ => none)))))), (q23, .inl (0, 4, .inl (fun _ => 0))), (q25, .inl (0, 36, .inl (fun _ => 0)))])) from (ax_w_push (l := ((b, .inr (3, [.ref g, .ref q2, .ref q21, .ref q23, .null, .null, .int 0, .int 0, .int 0, .int 0])) :: (R0 ++ [(q21, .inl (3, 1200, .inr (.inr (.inr (.inr (fun _ => none)))))), (q23, .inl (0, 4, .inl (fun _ => 0)))]))) hq).trans (by simp)) ?_
  refine ax_wputF (l' := ((b, .inr (3, [.ref g, .ref q2, .ref q21, .ref q23, .ref q25, .null, .int 0, .int 0, .int 0, .int 0])) :: (R0 ++ [(q21, .inl (3, 1200, .inr (.inr (.inr (.inr (fun _ => none)))))), (q23, .inl (0, 4, .inl (fun _ => 0))), (q25, .inl (0, 36, .inl (fun _ => 0)))]))) 0 w25.1 rfl dX3_init_71 fFX3_29 rfl rfl rfl (Nat.le_of_ble_eq_true rfl) rfl ?_
  have w26 : wk h ((b, .inr (3, [.ref g, .ref q2, .ref q21, .ref q23, .ref q25, .null, .int 0, .int 0, .int 0, .int 0])) :: (R0 ++ [(q21, .inl (3, 1200, .inr (.inr (.inr (.inr (fun _ => none)))))), (q23, .inl (0, 4, .inl (fun _ => 0))), (q25, .inl (0, 36, .inl (fun _ => 0)))])) := wk_keys w25 rfl
  refine ax_aload_n dX3_init_74 rfl ?_
  refine ax_iconst (v := 4) dX3_init_75 (by decide) ?_
  refine ax_newq3 (N := 4) dX3_init_76 anX3_15 (by decide) (by decide) (by decide) (by omega) (by omega) (fun q27 hq => ?_)
  have w27 : wk h ((b, .inr (3, [.ref g, .ref q2, .ref q21, .ref q23, .ref q25, .null, .int 0, .int 0, .int 0, .int 0])) :: (R0 ++ [(q21, .inl (3, 1200, .inr (.inr (.inr (.inr (fun _ => none)))))), (q23, .inl (0, 4, .inl (fun _ => 0))), (q25, .inl (0, 36, .inl (fun _ => 0))), (q27, .inl (3, 4, .inr (.inr (.inr (.inr (fun _ => none))))))])) := wk_keys (wk_push (l := ((b, .inr (3, [.ref g, .ref q2, .ref q21, .ref q23, .ref q25, .null, .int 0, .int 0, .int 0, .int 0])) :: (R0 ++ [(q21, .inl (3, 1200, .inr (.inr (.inr (.inr (fun _ => none)))))), (q23, .inl (0, 4, .inl (fun _ => 0))), (q25, .inl (0, 36, .inl (fun _ => 0)))]))) (.inl (3, 4, .inr (.inr (.inr (.inr (fun _ => none)))))) w26 hq) (by simp)
  refine ax_eqh (show _ = ax_w h ((b, .inr (3, [.ref g, .ref q2, .ref q21, .ref q23, .ref q25, .null, .int 0, .int 0, .int 0, .int 0])) :: (R0 ++ [(q21, .inl (3, 1200, .inr (.inr (.inr (.inr (fun _ => none)))))), (q23, .inl (0, 4, .inl (fun _ => 0))), (q25, .inl (0, 36, .inl (fun _ => 0))), (q27, .inl (3, 4, .inr (.inr (.inr (.inr (fun _ => none))))))])) from (ax_w_push (l := ((b, .inr (3, [.ref g, .ref q2, .ref q21, .ref q23, .ref q25, .null, .int 0, .int 0, .int 0, .int 0])) :: (R0 ++ [(q21, .inl (3, 1200, .inr (.inr (.inr (.inr (fun _ => none)))))), (q23, .inl (0, 4, .inl (fun _ => 0))), (q25, .inl (0, 36, .inl (fun _ => 0)))]))) hq).trans (by simp)) ?_
  refine ax_wputF (l' := ((b, .inr (3, [.ref g, .ref q2, .ref q21, .ref q23, .ref q25, .ref q27, .int 0, .int 0, .int 0, .int 0])) :: (R0 ++ [(q21, .inl (3, 1200, .inr (.inr (.inr (.inr (fun _ => none)))))), (q23, .inl (0, 4, .inl (fun _ => 0))), (q25, .inl (0, 36, .inl (fun _ => 0))), (q27, .inl (3, 4, .inr (.inr (.inr (.inr (fun _ => none))))))]))) 0 w27.1 rfl dX3_init_79 fFX3_32 rfl rfl rfl (Nat.le_of_ble_eq_true rfl) rfl ?_
  have w28 : wk h ((b, .inr (3, [.ref g, .ref q2, .ref q21, .ref q23, .ref q25, .ref q27, .int 0, .int 0, .int 0, .int 0])) :: (R0 ++ [(q21, .inl (3, 1200, .inr (.inr (.inr (.inr (fun _ => none)))))), (q23, .inl (0, 4, .inl (fun _ => 0))), (q25, .inl (0, 36, .inl (fun _ => 0))), (q27, .inl (3, 4, .inr (.inr (.inr (.inr (fun _ => none))))))])) := wk_keys w27 rfl
  refine ax_iconst (v := 0) dX3_init_82 (by decide) ?_
  refine ax_istore_n dX3_init_83 (by decide) ?_
  refine ax_sub (lv' := [(0, .ref b), (1, .ref g), (2, .int 0)]) (fun _ z => z) ?_
  refine ax_eqh (show _ = ax_w h (((b, .inr (3, [.ref g, .ref q2, .ref q21, .ref q23, .ref q25, .ref q27, .int 0, .int 0, .int 0, .int 0])) :: (R0 ++ [(q21, .inl (3, 1200, .inr (.inr (.inr (.inr (fun _ => none)))))), (q23, .inl (0, 4, .inl (fun _ => 0))), (q25, .inl (0, 36, .inl (fun _ => 0)))])) ++ (q27, vo_a 4 []) :: vo_c []) from congrArg (ax_w h) (by rw [vo_a0]; simp [vo_c])) ?_
  refine ivl3b d 917 8232 h (A0 := ((b, .inr (3, [.ref g, .ref q2, .ref q21, .ref q23, .ref q25, .ref q27, .int 0, .int 0, .int 0, .int 0])) :: (R0 ++ [(q21, .inl (3, 1200, .inr (.inr (.inr (.inr (fun _ => none)))))), (q23, .inl (0, 4, .inl (fun _ => 0))), (q25, .inl (0, 36, .inl (fun _ => 0)))]))) (qa := q27) rfl rfl 4 [] (0 + 1 + 3 * 300 + 1 + 1 + 1 + 1) (0 + 300 + 22 * 300 + 1200 + 4 + 36 + 4) rfl (wk_keys w28 (by simp [vo_c])) (by omega) (by omega) (fun ws hws w39 => ?_)
  obtain ⟨R1, hR1⟩ : ∃ R1, R1 = (R0 ++ [(q21, .inl (3, 1200, .inr (.inr (.inr (.inr (fun _ => none)))))), (q23, .inl (0, 4, .inl (fun _ => 0))), (q25, .inl (0, 36, .inl (fun _ => 0)))]) ++ (q27, vo_a 4 ws) :: vo_c ws := ⟨_, rfl⟩
  have w40 : wk h ((b, .inr (3, [.ref g, .ref q2, .ref q21, .ref q23, .ref q25, .ref q27, .int 0, .int 0, .int 0, .int 0])) :: R1) := by rw [hR1]; exact w39
  refine ax_eqh (show _ = ax_w h ((b, .inr (3, [.ref g, .ref q2, .ref q21, .ref q23, .ref q25, .ref q27, .int 0, .int 0, .int 0, .int 0])) :: R1) by rw [hR1]; rfl) ?_
  refine ax_aload_n dX3_init_112 rfl ?_
  refine ax_iconst (v := 0) dX3_init_113 (by decide) ?_
  refine ax_wput (l' := ((b, .inr (3, [.ref g, .ref q2, .ref q21, .ref q23, .ref q25, .ref q27, .int 0, .int 0, .int 0, .int 0])) :: (R1))) 0 w40.1 rfl dX3_init_114 fpX3_35 rfl rfl (Nat.le_of_ble_eq_true rfl) rfl ?_
  have w41 : wk h ((b, .inr (3, [.ref g, .ref q2, .ref q21, .ref q23, .ref q25, .ref q27, .int 0, .int 0, .int 0, .int 0])) :: (R1)) := wk_keys w40 rfl
  refine ax_aload_n dX3_init_117 rfl ?_
  refine ax_iconst (v := 0) dX3_init_118 (by decide) ?_
  refine ax_wput (l' := ((b, .inr (3, [.ref g, .ref q2, .ref q21, .ref q23, .ref q25, .ref q27, .int 0, .int 0, .int 0, .int 0])) :: (R1))) 0 w41.1 rfl dX3_init_119 fpX3_39 rfl rfl (Nat.le_of_ble_eq_true rfl) rfl ?_
  have w42 : wk h ((b, .inr (3, [.ref g, .ref q2, .ref q21, .ref q23, .ref q25, .ref q27, .int 0, .int 0, .int 0, .int 0])) :: (R1)) := wk_keys w41 rfl
  refine ax_aload_n dX3_init_122 rfl ?_
  refine ax_iconst (v := 0) dX3_init_123 (by decide) ?_
  refine ax_wput (l' := ((b, .inr (3, [.ref g, .ref q2, .ref q21, .ref q23, .ref q25, .ref q27, .int 0, .int 0, .int 0, .int 0])) :: (R1))) 0 w42.1 rfl dX3_init_124 fpX3_43 rfl rfl (Nat.le_of_ble_eq_true rfl) rfl ?_
  have w43 : wk h ((b, .inr (3, [.ref g, .ref q2, .ref q21, .ref q23, .ref q25, .ref q27, .int 0, .int 0, .int 0, .int 0])) :: (R1)) := wk_keys w42 rfl
  refine ax_aload_n dX3_init_127 rfl ?_
  refine ax_iconst (v := 0) dX3_init_128 (by decide) ?_
  refine ax_wput (l' := ((b, .inr (3, [.ref g, .ref q2, .ref q21, .ref q23, .ref q25, .ref q27, .int 0, .int 0, .int 0, .int 0])) :: (R1))) 0 w43.1 rfl dX3_init_129 fpX3_46 rfl rfl (Nat.le_of_ble_eq_true rfl) rfl ?_
  have w44 : wk h ((b, .inr (3, [.ref g, .ref q2, .ref q21, .ref q23, .ref q25, .ref q27, .int 0, .int 0, .int 0, .int 0])) :: (R1)) := wk_keys w43 rfl
  have hfin : ((b, .inr (3, [.ref g, .ref q2, .ref q21, .ref q23, .ref q25, .ref q27, .int 0, .int 0, .int 0, .int 0])) :: R1) = fin3 b g q2 vs q21 q23 q25 q27 ws := by rw [hR1, hR0]; rfl
  rw [hfin] at w44 ⊢
  exact ax_vret (st := []) dX3_init_132 rfl (hQ q2 q21 q23 q25 q27 vs ws hvs hws w44)
set_option maxRecDepth 100000 in
set_option maxHeartbeats 4000000 in
theorem in4 (d : Nat) (h : ax_H) (b g : Nat) (hb : h b = none) {Q : ax_P} (hQ : ∀ (a c : Nat) (vs : List vo_t), vs.length = 8 → wk h (fin4 b g a c vs) → Q (.inl none) (ax_w h (fin4 b g a c vs))) : AW G mX4_init (d + 1) 26 224 Q 0 [(0, .ref b), (1, .ref g)] [] (ax_w h [(b, .inr (4, [.null, .null, .null, .int 0, .int 0, .int 0]))]) 0 0 := by
  have w0 : wk h ((b, .inr (4, [.null, .null, .null, .int 0, .int 0, .int 0])) :: []) := ⟨by simp, fun x hx => by have : x = b := (by simpa using hx); rw [this]; exact hb⟩
  refine ax_aload_n dX4_init_0 rfl ?_
  refine ax_obj dX4_init_1 oiX4_3 ax_oiI ax_oiC (Nat.le_of_ble_eq_true rfl) ?_
  refine ax_aload_n dX4_init_4 rfl ?_
  refine ax_aload_n dX4_init_5 rfl ?_
  refine ax_wputF (l' := ((b, .inr (4, [.ref g, .null, .null, .int 0, .int 0, .int 0])) :: ([]))) 0 w0.1 rfl dX4_init_6 fFX4_9 rfl rfl rfl (Nat.le_of_ble_eq_true rfl) rfl ?_
  have w1 : wk h ((b, .inr (4, [.ref g, .null, .null, .int 0, .int 0, .int 0])) :: ([])) := wk_keys w0 rfl
  refine ax_aload_n dX4_init_9 rfl ?_
  refine ax_bipush (v := 40) dX4_init_10 (by decide) ?_
  refine ax_newa_int (N := 40) dX4_init_12 ax_aI (by decide) (by decide) (by decide) (by omega) (by omega) (fun q2 hq => ?_)
  have w2 : wk h ((b, .inr (4, [.ref g, .null, .null, .int 0, .int 0, .int 0])) :: ([(q2, .inl (0, 40, .inl (fun _ => 0)))])) := wk_keys (wk_push (l := ((b, .inr (4, [.ref g, .null, .null, .int 0, .int 0, .int 0])) :: ([]))) (.inl (0, 40, .inl (fun _ => 0))) w1 hq) (by simp)
  refine ax_eqh (show _ = ax_w h ((b, .inr (4, [.ref g, .null, .null, .int 0, .int 0, .int 0])) :: ([(q2, .inl (0, 40, .inl (fun _ => 0)))])) from (ax_w_push (l := ((b, .inr (4, [.ref g, .null, .null, .int 0, .int 0, .int 0])) :: ([]))) hq).trans (by simp)) ?_
  refine ax_wputF (l' := ((b, .inr (4, [.ref g, .ref q2, .null, .int 0, .int 0, .int 0])) :: ([(q2, .inl (0, 40, .inl (fun _ => 0)))]))) 0 w2.1 rfl dX4_init_14 fFX4_15 rfl rfl rfl (Nat.le_of_ble_eq_true rfl) rfl ?_
  have w3 : wk h ((b, .inr (4, [.ref g, .ref q2, .null, .int 0, .int 0, .int 0])) :: ([(q2, .inl (0, 40, .inl (fun _ => 0)))])) := wk_keys w2 rfl
  refine ax_aload_n dX4_init_17 rfl ?_
  refine ax_bipush (v := 8) dX4_init_18 (by decide) ?_
  refine ax_newq3 (N := 8) dX4_init_20 anX4_19 (by decide) (by decide) (by decide) (by omega) (by omega) (fun q4 hq => ?_)
  have w4 : wk h ((b, .inr (4, [.ref g, .ref q2, .null, .int 0, .int 0, .int 0])) :: ([(q2, .inl (0, 40, .inl (fun _ => 0))), (q4, .inl (3, 8, .inr (.inr (.inr (.inr (fun _ => none))))))])) := wk_keys (wk_push (l := ((b, .inr (4, [.ref g, .ref q2, .null, .int 0, .int 0, .int 0])) :: ([(q2, .inl (0, 40, .inl (fun _ => 0)))]))) (.inl (3, 8, .inr (.inr (.inr (.inr (fun _ => none)))))) w3 hq) (by simp)
  refine ax_eqh (show _ = ax_w h ((b, .inr (4, [.ref g, .ref q2, .null, .int 0, .int 0, .int 0])) :: ([(q2, .inl (0, 40, .inl (fun _ => 0))), (q4, .inl (3, 8, .inr (.inr (.inr (.inr (fun _ => none))))))])) from (ax_w_push (l := ((b, .inr (4, [.ref g, .ref q2, .null, .int 0, .int 0, .int 0])) :: ([(q2, .inl (0, 40, .inl (fun _ => 0)))]))) hq).trans (by simp)) ?_
  refine ax_wputF (l' := ((b, .inr (4, [.ref g, .ref q2, .ref q4, .int 0, .int 0, .int 0])) :: ([(q2, .inl (0, 40, .inl (fun _ => 0))), (q4, .inl (3, 8, .inr (.inr (.inr (.inr (fun _ => none))))))]))) 0 w4.1 rfl dX4_init_23 fFX4_21 rfl rfl rfl (Nat.le_of_ble_eq_true rfl) rfl ?_
  have w5 : wk h ((b, .inr (4, [.ref g, .ref q2, .ref q4, .int 0, .int 0, .int 0])) :: ([(q2, .inl (0, 40, .inl (fun _ => 0))), (q4, .inl (3, 8, .inr (.inr (.inr (.inr (fun _ => none))))))])) := wk_keys w4 rfl
  refine ax_iconst (v := 0) dX4_init_26 (by decide) ?_
  refine ax_istore_n dX4_init_27 (by decide) ?_
  refine ax_sub (lv' := [(0, .ref b), (1, .ref g), (2, .int 0)]) (fun _ z => z) ?_
  refine ax_eqh (show _ = ax_w h (((b, .inr (4, [.ref g, .ref q2, .ref q4, .int 0, .int 0, .int 0])) :: [(q2, .inl (0, 40, .inl (fun _ => 0)))]) ++ (q4, vo_a 8 []) :: vo_c []) from congrArg (ax_w h) (by rw [vo_a0]; simp [vo_c])) ?_
  refine ivl4 d 26 224 h (A0 := ((b, .inr (4, [.ref g, .ref q2, .ref q4, .int 0, .int 0, .int 0])) :: [(q2, .inl (0, 40, .inl (fun _ => 0)))])) (qa := q4) rfl rfl 8 [] (0 + 1 + 1) (0 + 40 + 8) rfl (wk_keys w5 (by simp [vo_c])) (by omega) (by omega) (fun ws hws w39 => ?_)
  obtain ⟨R1, hR1⟩ : ∃ R1, R1 = [(q2, .inl (0, 40, .inl (fun _ => 0)))] ++ (q4, vo_a 8 ws) :: vo_c ws := ⟨_, rfl⟩
  have w40 : wk h ((b, .inr (4, [.ref g, .ref q2, .ref q4, .int 0, .int 0, .int 0])) :: R1) := by rw [hR1]; exact w39
  refine ax_eqh (show _ = ax_w h ((b, .inr (4, [.ref g, .ref q2, .ref q4, .int 0, .int 0, .int 0])) :: R1) by rw [hR1]; rfl) ?_
  refine ax_aload_n dX4_init_56 rfl ?_
  refine ax_iconst (v := 0) dX4_init_57 (by decide) ?_
  refine ax_wput (l' := ((b, .inr (4, [.ref g, .ref q2, .ref q4, .int 0, .int 0, .int 0])) :: (R1))) 0 w40.1 rfl dX4_init_58 fpX4_26 rfl rfl (Nat.le_of_ble_eq_true rfl) rfl ?_
  have w41 : wk h ((b, .inr (4, [.ref g, .ref q2, .ref q4, .int 0, .int 0, .int 0])) :: (R1)) := wk_keys w40 rfl
  refine ax_aload_n dX4_init_61 rfl ?_
  refine ax_iconst (v := 0) dX4_init_62 (by decide) ?_
  refine ax_wput (l' := ((b, .inr (4, [.ref g, .ref q2, .ref q4, .int 0, .int 0, .int 0])) :: (R1))) 0 w41.1 rfl dX4_init_63 fpX4_30 rfl rfl (Nat.le_of_ble_eq_true rfl) rfl ?_
  have w42 : wk h ((b, .inr (4, [.ref g, .ref q2, .ref q4, .int 0, .int 0, .int 0])) :: (R1)) := wk_keys w41 rfl
  refine ax_aload_n dX4_init_66 rfl ?_
  refine ax_iconst (v := 0) dX4_init_67 (by decide) ?_
  refine ax_wput (l' := ((b, .inr (4, [.ref g, .ref q2, .ref q4, .int 0, .int 0, .int 0])) :: (R1))) 0 w42.1 rfl dX4_init_68 fpX4_33 rfl rfl (Nat.le_of_ble_eq_true rfl) rfl ?_
  have w43 : wk h ((b, .inr (4, [.ref g, .ref q2, .ref q4, .int 0, .int 0, .int 0])) :: (R1)) := wk_keys w42 rfl
  have hfin : ((b, .inr (4, [.ref g, .ref q2, .ref q4, .int 0, .int 0, .int 0])) :: R1) = fin4 b g q2 q4 ws := by rw [hR1]; rfl
  rw [hfin] at w43 ⊢
  exact ax_vret (st := []) dX4_init_71 rfl (hQ q2 q4 ws hws w43)
end INI3
