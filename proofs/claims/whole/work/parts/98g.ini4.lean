/-! ===== DataMaker's constructor: its cells ===== -/
theorem wk_app {h : ax_H} {l m : List (Nat × ax_E)} (hl : wk h l) (hm : wk (ax_w h l) m) : wk h (l ++ m) ∧ ax_w (ax_w h l) m = ax_w h (l ++ m) := by
  have hd : ∀ x ∈ m.map (fun q => q.1), x ∉ l.map (fun q => q.1) := fun x hx => ax_w_nin (hm.2 x hx)
  refine ⟨⟨?_, fun k hk => ?_⟩, ax_w_app hd⟩
  · rw [List.map_append, List.nodup_append]
    exact ⟨hl.1, hm.1, fun k hk k' hk' e => hd k' hk' (by rw [← e]; exact hk)⟩
  · rw [List.map_append] at hk
    rcases List.mem_append.mp hk with z | z
    · exact hl.2 k z
    · exact ax_w_none (hm.2 k z)
def fin1 (b q1 q2 q3 q4 : Nat) : List (Nat × ax_E) := [(b, .inr (1, [.int 0, .int 2, .int 0, .int 0, .ref q1, .ref q2, .ref q3, .ref q4])), (q1, .inl (0, 6, .inl (fun _ => 0))), (q2, .inl (0, 18, .inl (fun _ => 0))), (q3, .inl (0, 18, .inl (fun _ => 0))), (q4, .inl (0, 6, .inl (fun _ => 0)))]
def fin0 (b q1 : Nat) : List (Nat × ax_E) := [(b, .inr (0, [.ref q1, .int 0])), (q1, .inl (0, 32, .inl (fun _ => 0)))]
def fin2 (b q1 : Nat) : List (Nat × ax_E) := [(b, .inr (2, [.ref q1, .int 0])), (q1, .inl (3, 300, .inr (.inr (.inr (.inr (fun _ => none))))))]
section INI4
variable {G : ax_G}

theorem fin1_wk {h : ax_H} {b q1 q2 q3 q4 : Nat} (hb : h b = none) (hn : ([b, q1, q2, q3, q4] : List Nat).Nodup) (hq1 : h q1 = none) (hq2 : h q2 = none) (hq3 : h q3 = none) (hq4 : h q4 = none) : wk h (fin1 b q1 q2 q3 q4) := by
  refine ⟨hn, fun x hx => ?_⟩
  have hx : x ∈ ([b, q1, q2, q3, q4] : List Nat) := hx
  simp only [List.mem_cons, List.not_mem_nil, or_false] at hx
  rcases hx with rfl | rfl | rfl | rfl | rfl
  · exact hb
  · exact hq1
  · exact hq2
  · exact hq3
  · exact hq4
theorem fin0_wk {h : ax_H} {b q1 : Nat} (hb : h b = none) (hn : ([b, q1] : List Nat).Nodup) (hq1 : h q1 = none) : wk h (fin0 b q1) := by
  refine ⟨hn, fun x hx => ?_⟩
  have hx : x ∈ ([b, q1] : List Nat) := hx
  simp only [List.mem_cons, List.not_mem_nil, or_false] at hx
  rcases hx with rfl | rfl
  · exact hb
  · exact hq1
theorem fin2_wk {h : ax_H} {b q1 : Nat} (hb : h b = none) (hn : ([b, q1] : List Nat).Nodup) (hq1 : h q1 = none) : wk h (fin2 b q1) := by
  refine ⟨hn, fun x hx => ?_⟩
  have hx : x ∈ ([b, q1] : List Nat) := hx
  simp only [List.mem_cons, List.not_mem_nil, or_false] at hx
  rcases hx with rfl | rfl
  · exact hb
  · exact hq1
def fin6 (b o1 q1 q2 q3 q4 o3 a3 : Nat) (vs : List vo_t) (c3 e3 f3 k3 : Nat) (ws : List vo_t) (o4 a4 c4 : Nat) (us : List vo_t) (o0 p1 o2 p2 : Nat) : List (Nat × ax_E) := (b, .inr (6, [.ref o1, .ref o3, .ref o4, .ref o0, .ref o2, .null])) :: (((([] ++ fin1 o1 q1 q2 q3 q4) ++ fin3 o3 o1 a3 vs c3 e3 f3 k3 ws) ++ fin4 o4 o1 a4 c4 us) ++ fin0 o0 p1) ++ fin2 o2 p2
set_option maxRecDepth 100000 in
set_option maxHeartbeats 4000000 in
theorem in6 (d : Nat) (h : ax_H) (b : Nat) (hb : h b = none) {Q : ax_P} (hQ : ∀ (o1 q1 q2 q3 q4 o3 a3 c3 e3 f3 k3 o4 a4 c4 o0 p1 o2 p2 : Nat) (vs ws us : List vo_t), vs.length = 300 → ws.length = 4 → us.length = 8 → wk h (fin6 b o1 q1 q2 q3 q4 o3 a3 vs c3 e3 f3 k3 ws o4 a4 c4 us o0 p1 o2 p2) → Q (.inl none) (ax_w h (fin6 b o1 q1 q2 q3 q4 o3 a3 vs c3 e3 f3 k3 ws o4 a4 c4 us o0 p1 o2 p2))) : AW G mX6_init (d + 2) 954 8864 Q 0 [(0, .ref b)] [] (ax_w h [(b, .inr (6, [.null, .null, .null, .null, .null, .null]))]) 0 0 := by
  have w0 : wk h ((b, .inr (6, [.null, .null, .null, .null, .null, .null])) :: []) := ⟨by simp, fun x hx => by have : x = b := (by simpa using hx); rw [this]; exact hb⟩
  refine ax_aload_n dX6_init_0 rfl ?_
  refine ax_obj dX6_init_1 oiX6_1 ax_oiI ax_oiC (Nat.le_of_ble_eq_true rfl) ?_
  refine ax_aload_n dX6_init_4 rfl ?_
  refine ax_new dX6_init_5 mkX6_7 (by omega) (by show 0 + 8 ≤ 8864; omega) (fun o1 hq => ?_)
  refine ax_eqh (ax_w_one _ o1 _) ?_
  refine ax_dup dX6_init_8 rfl ?_
  refine ax_callI (b := o1) (av := []) (rest := [.ref o1, .ref b]) (mc' := 4) (ms' := 48) dX6_init_9 rfl lkX6_9 rfl (Nat.le_of_ble_eq_true rfl) (Nat.le_of_ble_eq_true rfl) (by omega) (by show 0 + 8 + 48 ≤ 8864; omega) (in1 (d + 1) (ax_w h ((b, .inr (6, [.null, .null, .null, .null, .null, .null])) :: [])) o1 hq (Q := fun r h9 => r = .inl none ∧ ∃ q1 q2 q3 q4, wk (ax_w h ((b, .inr (6, [.null, .null, .null, .null, .null, .null])) :: [])) (fin1 o1 q1 q2 q3 q4) ∧ h9 = ax_w (ax_w h ((b, .inr (6, [.null, .null, .null, .null, .null, .null])) :: [])) (fin1 o1 q1 q2 q3 q4)) (fun q1 q2 q3 q4 z zq1 zq2 zq3 zq4 => ⟨rfl, q1, q2, q3, q4, fin1_wk hq z zq1 zq2 zq3 zq4, rfl⟩)) (fun E9 h9 q9 => by cases q9.1) (fun v9 h9 q9 => ?_)
  obtain ⟨e9, q1_1, q2_1, q3_1, q4_1, hm, rfl⟩ := q9
  cases e9
  obtain ⟨R1, hR1⟩ : ∃ R1, R1 = [] ++ (fin1 o1 q1_1 q2_1 q3_1 q4_1) := ⟨_, rfl⟩
  have m0 := wk_app w0 hm
  have wa0 : wk h ((b, .inr (6, [.null, .null, .null, .null, .null, .null])) :: R1) := by rw [hR1]; exact m0.1
  refine ax_eqh (show _ = ax_w h ((b, .inr (6, [.null, .null, .null, .null, .null, .null])) :: R1) by rw [hR1]; exact m0.2) ?_
  show AW G mX6_init (d + 2) 954 8864 Q 12 [(0, .ref b)] [.ref o1, .ref b] _ _ _
  refine ax_wputF (l' := ((b, .inr (6, [.ref o1, .null, .null, .null, .null, .null])) :: R1)) 0 wa0.1 rfl dX6_init_12 fFX6_10 rfl rfl rfl (Nat.le_of_ble_eq_true rfl) rfl ?_
  have wb0 : wk h ((b, .inr (6, [.ref o1, .null, .null, .null, .null, .null])) :: R1) := wk_keys wa0 rfl
  refine ax_aload_n dX6_init_15 rfl ?_
  refine ax_new dX6_init_16 mkX6_16 (by omega) (by show 0 + 8 + 48 + 10 ≤ 8864; omega) (fun o3 hq => ?_)
  refine ax_eqh (ax_w_one _ o3 _) ?_
  refine ax_dup dX6_init_19 rfl ?_
  refine ax_aload_n dX6_init_20 rfl ?_
  have hbq1 : b ≠ o3 := fun e => ax_w_nin hq (by rw [← e]; exact List.mem_cons_self)
  refine ax_get (v := .ref o1) dX6_init_21 fkX6_10 (show ax_w (ax_w h ((b, .inr (6, [.ref o1, .null, .null, .null, .null, .null])) :: R1)) [(o3, .inr (3, [.null, .null, .null, .null, .null, .null, .int 0, .int 0, .int 0, .int 0]))] b = some (.inr (6, [.ref o1, .null, .null, .null, .null, .null])) by rw [ax_w_ne (by simpa using hbq1)]; exact ax_w_get (l := ((b, .inr (6, [.ref o1, .null, .null, .null, .null, .null])) :: R1)) wb0.1 (i := 0) rfl) rfl ?_
  refine ax_callI (b := o3) (av := [.ref o1]) (rest := [.ref o3, .ref b]) (mc' := 917) (ms' := 8232) dX6_init_24 rfl lkX6_18 rfl (Nat.le_of_ble_eq_true rfl) (Nat.le_of_ble_eq_true rfl) (by omega) (by show 0 + 8 + 48 + 10 + 8232 ≤ 8864; omega) (in3 d (ax_w h ((b, .inr (6, [.ref o1, .null, .null, .null, .null, .null])) :: R1)) o3 o1 hq (Q := fun r h9 => r = .inl none ∧ ∃ (a c e f k : Nat) (vs ws : List vo_t), vs.length = 300 ∧ ws.length = 4 ∧ wk (ax_w h ((b, .inr (6, [.ref o1, .null, .null, .null, .null, .null])) :: R1)) (fin3 o3 o1 a vs c e f k ws) ∧ h9 = ax_w (ax_w h ((b, .inr (6, [.ref o1, .null, .null, .null, .null, .null])) :: R1)) (fin3 o3 o1 a vs c e f k ws)) (fun a c e f k vs ws z1 z2 z3 => ⟨rfl, a, c, e, f, k, vs, ws, z1, z2, z3, rfl⟩)) (fun E9 h9 q9 => by cases q9.1) (fun v9 h9 q9 => ?_)
  obtain ⟨e9, a3, c3, e3, f3, k3, vs, ws, l1, l2, hm, rfl⟩ := q9
  cases e9
  obtain ⟨R2, hR2⟩ : ∃ R2, R2 = R1 ++ (fin3 o3 o1 a3 vs c3 e3 f3 k3 ws) := ⟨_, rfl⟩
  have m1 := wk_app wb0 hm
  have wa1 : wk h ((b, .inr (6, [.ref o1, .null, .null, .null, .null, .null])) :: R2) := by rw [hR2]; exact m1.1
  refine ax_eqh (show _ = ax_w h ((b, .inr (6, [.ref o1, .null, .null, .null, .null, .null])) :: R2) by rw [hR2]; exact m1.2) ?_
  show AW G mX6_init (d + 2) 954 8864 Q 27 [(0, .ref b)] [.ref o3, .ref b] _ _ _
  refine ax_wputF (l' := ((b, .inr (6, [.ref o1, .ref o3, .null, .null, .null, .null])) :: R2)) 0 wa1.1 rfl dX6_init_27 fFX6_21 rfl rfl rfl (Nat.le_of_ble_eq_true rfl) rfl ?_
  have wb1 : wk h ((b, .inr (6, [.ref o1, .ref o3, .null, .null, .null, .null])) :: R2) := wk_keys wa1 rfl
  refine ax_aload_n dX6_init_30 rfl ?_
  refine ax_new dX6_init_31 mkX6_25 (by omega) (by show 0 + 8 + 48 + 10 + 8232 + 6 ≤ 8864; omega) (fun o4 hq => ?_)
  refine ax_eqh (ax_w_one _ o4 _) ?_
  refine ax_dup dX6_init_34 rfl ?_
  refine ax_aload_n dX6_init_35 rfl ?_
  have hbq2 : b ≠ o4 := fun e => ax_w_nin hq (by rw [← e]; exact List.mem_cons_self)
  refine ax_get (v := .ref o1) dX6_init_36 fkX6_10 (show ax_w (ax_w h ((b, .inr (6, [.ref o1, .ref o3, .null, .null, .null, .null])) :: R2)) [(o4, .inr (4, [.null, .null, .null, .int 0, .int 0, .int 0]))] b = some (.inr (6, [.ref o1, .ref o3, .null, .null, .null, .null])) by rw [ax_w_ne (by simpa using hbq2)]; exact ax_w_get (l := ((b, .inr (6, [.ref o1, .ref o3, .null, .null, .null, .null])) :: R2)) wb1.1 (i := 0) rfl) rfl ?_
  refine ax_callI (b := o4) (av := [.ref o1]) (rest := [.ref o4, .ref b]) (mc' := 26) (ms' := 224) dX6_init_39 rfl lkX6_27 rfl (Nat.le_of_ble_eq_true rfl) (Nat.le_of_ble_eq_true rfl) (by omega) (by show 0 + 8 + 48 + 10 + 8232 + 6 + 224 ≤ 8864; omega) (in4 d (ax_w h ((b, .inr (6, [.ref o1, .ref o3, .null, .null, .null, .null])) :: R2)) o4 o1 hq (Q := fun r h9 => r = .inl none ∧ ∃ (a c : Nat) (vs : List vo_t), vs.length = 8 ∧ wk (ax_w h ((b, .inr (6, [.ref o1, .ref o3, .null, .null, .null, .null])) :: R2)) (fin4 o4 o1 a c vs) ∧ h9 = ax_w (ax_w h ((b, .inr (6, [.ref o1, .ref o3, .null, .null, .null, .null])) :: R2)) (fin4 o4 o1 a c vs)) (fun a c vs z1 z3 => ⟨rfl, a, c, vs, z1, z3, rfl⟩)) (fun E9 h9 q9 => by cases q9.1) (fun v9 h9 q9 => ?_)
  obtain ⟨e9, a4, c4, us, l3, hm, rfl⟩ := q9
  cases e9
  obtain ⟨R3, hR3⟩ : ∃ R3, R3 = R2 ++ (fin4 o4 o1 a4 c4 us) := ⟨_, rfl⟩
  have m2 := wk_app wb1 hm
  have wa2 : wk h ((b, .inr (6, [.ref o1, .ref o3, .null, .null, .null, .null])) :: R3) := by rw [hR3]; exact m2.1
  refine ax_eqh (show _ = ax_w h ((b, .inr (6, [.ref o1, .ref o3, .null, .null, .null, .null])) :: R3) by rw [hR3]; exact m2.2) ?_
  show AW G mX6_init (d + 2) 954 8864 Q 42 [(0, .ref b)] [.ref o4, .ref b] _ _ _
  refine ax_wputF (l' := ((b, .inr (6, [.ref o1, .ref o3, .ref o4, .null, .null, .null])) :: R3)) 0 wa2.1 rfl dX6_init_42 fFX6_28 rfl rfl rfl (Nat.le_of_ble_eq_true rfl) rfl ?_
  have wb2 : wk h ((b, .inr (6, [.ref o1, .ref o3, .ref o4, .null, .null, .null])) :: R3) := wk_keys wa2 rfl
  refine ax_aload_n dX6_init_45 rfl ?_
  refine ax_new dX6_init_46 mkX6_32 (by omega) (by show 0 + 8 + 48 + 10 + 8232 + 6 + 224 + 2 ≤ 8864; omega) (fun o0 hq => ?_)
  refine ax_eqh (ax_w_one _ o0 _) ?_
  refine ax_dup dX6_init_49 rfl ?_
  refine ax_callI (b := o0) (av := []) (rest := [.ref o0, .ref b]) (mc' := 1) (ms' := 32) dX6_init_50 rfl lkX6_34 rfl (Nat.le_of_ble_eq_true rfl) (Nat.le_of_ble_eq_true rfl) (by omega) (by show 0 + 8 + 48 + 10 + 8232 + 6 + 224 + 2 + 32 ≤ 8864; omega) (in0 (d + 1) (ax_w h ((b, .inr (6, [.ref o1, .ref o3, .ref o4, .null, .null, .null])) :: R3)) o0 hq (Q := fun r h9 => r = .inl none ∧ ∃ q1, wk (ax_w h ((b, .inr (6, [.ref o1, .ref o3, .ref o4, .null, .null, .null])) :: R3)) (fin0 o0 q1) ∧ h9 = ax_w (ax_w h ((b, .inr (6, [.ref o1, .ref o3, .ref o4, .null, .null, .null])) :: R3)) (fin0 o0 q1)) (fun q1 z zq1 => ⟨rfl, q1, fin0_wk hq z zq1, rfl⟩)) (fun E9 h9 q9 => by cases q9.1) (fun v9 h9 q9 => ?_)
  obtain ⟨e9, q1_0, hm, rfl⟩ := q9
  cases e9
  obtain ⟨R4, hR4⟩ : ∃ R4, R4 = R3 ++ (fin0 o0 q1_0) := ⟨_, rfl⟩
  have m3 := wk_app wb2 hm
  have wa3 : wk h ((b, .inr (6, [.ref o1, .ref o3, .ref o4, .null, .null, .null])) :: R4) := by rw [hR4]; exact m3.1
  refine ax_eqh (show _ = ax_w h ((b, .inr (6, [.ref o1, .ref o3, .ref o4, .null, .null, .null])) :: R4) by rw [hR4]; exact m3.2) ?_
  show AW G mX6_init (d + 2) 954 8864 Q 53 [(0, .ref b)] [.ref o0, .ref b] _ _ _
  refine ax_wputF (l' := ((b, .inr (6, [.ref o1, .ref o3, .ref o4, .ref o0, .null, .null])) :: R4)) 0 wa3.1 rfl dX6_init_53 fFX6_35 rfl rfl rfl (Nat.le_of_ble_eq_true rfl) rfl ?_
  have wb3 : wk h ((b, .inr (6, [.ref o1, .ref o3, .ref o4, .ref o0, .null, .null])) :: R4) := wk_keys wa3 rfl
  refine ax_aload_n dX6_init_56 rfl ?_
  refine ax_new dX6_init_57 mkX6_39 (by omega) (by show 0 + 8 + 48 + 10 + 8232 + 6 + 224 + 2 + 32 + 2 ≤ 8864; omega) (fun o2 hq => ?_)
  refine ax_eqh (ax_w_one _ o2 _) ?_
  refine ax_dup dX6_init_60 rfl ?_
  refine ax_callI (b := o2) (av := []) (rest := [.ref o2, .ref b]) (mc' := 1) (ms' := 300) dX6_init_61 rfl lkX6_41 rfl (Nat.le_of_ble_eq_true rfl) (Nat.le_of_ble_eq_true rfl) (by omega) (by show 0 + 8 + 48 + 10 + 8232 + 6 + 224 + 2 + 32 + 2 + 300 ≤ 8864; omega) (in2 (d + 1) (ax_w h ((b, .inr (6, [.ref o1, .ref o3, .ref o4, .ref o0, .null, .null])) :: R4)) o2 hq (Q := fun r h9 => r = .inl none ∧ ∃ q1, wk (ax_w h ((b, .inr (6, [.ref o1, .ref o3, .ref o4, .ref o0, .null, .null])) :: R4)) (fin2 o2 q1) ∧ h9 = ax_w (ax_w h ((b, .inr (6, [.ref o1, .ref o3, .ref o4, .ref o0, .null, .null])) :: R4)) (fin2 o2 q1)) (fun q1 z zq1 => ⟨rfl, q1, fin2_wk hq z zq1, rfl⟩)) (fun E9 h9 q9 => by cases q9.1) (fun v9 h9 q9 => ?_)
  obtain ⟨e9, q1_2, hm, rfl⟩ := q9
  cases e9
  obtain ⟨R5, hR5⟩ : ∃ R5, R5 = R4 ++ (fin2 o2 q1_2) := ⟨_, rfl⟩
  have m4 := wk_app wb3 hm
  have wa4 : wk h ((b, .inr (6, [.ref o1, .ref o3, .ref o4, .ref o0, .null, .null])) :: R5) := by rw [hR5]; exact m4.1
  refine ax_eqh (show _ = ax_w h ((b, .inr (6, [.ref o1, .ref o3, .ref o4, .ref o0, .null, .null])) :: R5) by rw [hR5]; exact m4.2) ?_
  show AW G mX6_init (d + 2) 954 8864 Q 64 [(0, .ref b)] [.ref o2, .ref b] _ _ _
  refine ax_wputF (l' := ((b, .inr (6, [.ref o1, .ref o3, .ref o4, .ref o0, .ref o2, .null])) :: R5)) 0 wa4.1 rfl dX6_init_64 fFX6_42 rfl rfl rfl (Nat.le_of_ble_eq_true rfl) rfl ?_
  have wb4 : wk h ((b, .inr (6, [.ref o1, .ref o3, .ref o4, .ref o0, .ref o2, .null])) :: R5) := wk_keys wa4 rfl
  refine ax_aload_n dX6_init_67 rfl ?_
  refine ax_null dX6_init_68 ?_
  refine ax_wput (l' := ((b, .inr (6, [.ref o1, .ref o3, .ref o4, .ref o0, .ref o2, .null])) :: R5)) 0 wb4.1 rfl dX6_init_69 fpX6_46 rfl rfl (Nat.le_of_ble_eq_true rfl) rfl ?_
  have hfin : ((b, .inr (6, [.ref o1, .ref o3, .ref o4, .ref o0, .ref o2, .null])) :: R5) = fin6 b o1 q1_1 q2_1 q3_1 q4_1 o3 a3 vs c3 e3 f3 k3 ws o4 a4 c4 us o0 q1_0 o2 q1_2 := by rw [hR5, hR4, hR3, hR2, hR1]; rfl
  rw [hfin] at wb4 ⊢
  exact ax_vret (st := []) dX6_init_72 rfl (hQ o1 q1_1 q2_1 q3_1 q4_1 o3 a3 c3 e3 f3 k3 o4 a4 c4 o0 q1_0 o2 q1_2 vs ws us l1 l2 l3 wb4)
end INI4
