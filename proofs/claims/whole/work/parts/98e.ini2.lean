/-! ===== constructors with loops: the values' cells ===== -/
abbrev vo5 (n p : Nat) : ax_E := .inr (5, [.int 0, .int 0, .int 0, .int 0, .ref n, .ref p, .int 0, .int 0, .int 0, .int 0, .int 0, .int 0, .int 0, .int 0, .int 0, .int 0])
abbrev va3 : ax_E := .inl (0, 3, .inl (fun _ => 0))
abbrev vr3 : ax_E := .inl (3, 3, .inr (.inr (.inr (.inr (fun _ => none)))))
abbrev vo_t : Type := Nat × Nat × Nat
def vo_c (vs : List vo_t) : List (Nat × ax_E) := vs.flatMap (fun v => [(v.1, vo5 v.2.1 v.2.2), (v.2.1, va3), (v.2.2, vr3)])
def vo_a (n : Nat) (vs : List vo_t) : ax_E := .inl (3, n, .inr (.inr (.inr (.inr (fun j => (vs[j]?).map (fun v => v.1))))))
theorem vo_c_snoc (vs : List vo_t) (t : vo_t) : vo_c (vs ++ [t]) = vo_c vs ++ [(t.1, vo5 t.2.1 t.2.2), (t.2.1, va3), (t.2.2, vr3)] := by
  unfold vo_c
  rw [List.flatMap_append]; rfl
theorem vo_a_snoc (vs : List vo_t) (t : vo_t) : va_up (fun j => (vs[j]?).map (fun v => v.1)) vs.length (some t.1) = (fun j => ((vs ++ [t])[j]?).map (fun v => v.1)) := by
  funext j
  by_cases hj : j = vs.length
  · subst hj
    rw [va_up_self, List.getElem?_append_right (Nat.le_refl _), Nat.sub_self]; rfl
  · rw [va_up_ne _ _ hj]
    by_cases hl : j < vs.length
    · rw [List.getElem?_append_left hl]
    · rw [List.getElem?_append_right (by omega), List.getElem?_eq_none (by omega)]
      cases hk : j - vs.length with
      | zero => omega
      | succ k => rfl
/-- new cells: told apart, and none of them in the heap below -/
def wk (h : ax_H) (l : List (Nat × ax_E)) : Prop := (l.map (fun q => q.1)).Nodup ∧ ∀ x ∈ l.map (fun q => q.1), h x = none
theorem wk_push {h : ax_H} {l : List (Nat × ax_E)} {q : Nat} (o : ax_E) (hw : wk h l) (hq : ax_w h l q = none) : wk h (l ++ [(q, o)]) := by
  refine ⟨ax_nd_push hw.1 hq, fun x hx => ?_⟩
  rw [List.map_append] at hx
  rcases List.mem_append.mp hx with z | z
  · exact hw.2 x z
  · have : x = q := by simpa using z
    rw [this]; exact ax_w_none hq
theorem wk_keys {h : ax_H} {l l' : List (Nat × ax_E)} (hw : wk h l) (hk : l'.map (fun q => q.1) = l.map (fun q => q.1)) : wk h l' := by
  unfold wk; rw [hk]; exact hw
theorem wk_three {h : ax_H} {l : List (Nat × ax_E)} {a b c : Nat} (x y z : ax_E) (hw : wk h l) (hn : ([a, b, c] : List Nat).Nodup) (ha : ax_w h l a = none) (hb : ax_w h l b = none) (hc : ax_w h l c = none) : wk h (l ++ [(a, x), (b, y), (c, z)]) ∧ ax_w (ax_w h l) [(a, x), (b, y), (c, z)] = ax_w h (l ++ [(a, x), (b, y), (c, z)]) := by
  have hd : ∀ k ∈ ([(a, x), (b, y), (c, z)] : List (Nat × ax_E)).map (fun q => q.1), k ∉ l.map (fun q => q.1) := by
    intro k hk
    simp only [List.map_cons, List.map_nil, List.mem_cons, List.not_mem_nil, or_false] at hk
    rcases hk with rfl | rfl | rfl
    · exact ax_w_nin ha
    · exact ax_w_nin hb
    · exact ax_w_nin hc
  refine ⟨⟨?_, fun k hk => ?_⟩, ax_w_app hd⟩
  · rw [List.map_append, List.nodup_append]
    exact ⟨hw.1, hn, fun k hk k' hk' e => hd k' hk' (by rw [← e]; exact hk)⟩
  · rw [List.map_append] at hk
    rcases List.mem_append.mp hk with z1 | z1
    · exact hw.2 k z1
    · simp only [List.map_cons, List.map_nil, List.mem_cons, List.not_mem_nil, or_false] at z1
      rcases z1 with rfl | rfl | rfl
      · exact ax_w_none ha
      · exact ax_w_none hb
      · exact ax_w_none hc
theorem ax_w_one (h : ax_H) (q : Nat) (o : ax_E) : va_up h q (some o) = ax_w h [(q, o)] := by rw [ax_w_cons, ax_w_nil]
section INI2
variable {G : ax_G}

set_option maxRecDepth 100000 in
set_option maxHeartbeats 4000000 in
theorem ivl3a (d mc ms : Nat) (h : ax_H) {b qa g : Nat} {A0 : List (Nat × ax_E)} {fs : List Value} (h0 : A0[0]? = some (b, .inr (3, fs))) (hf : fs[1]? = some (.ref qa)) {Q : ax_P} : ∀ (i : Nat) (vs : List vo_t) (cn sn : Nat), vs.length + i = 300 → wk h (A0 ++ (qa, vo_a 300 vs) :: vo_c vs) → cn + 3 * i ≤ mc → sn + 22 * i ≤ ms → (∀ vs' : List vo_t, vs'.length = 300 → wk h (A0 ++ (qa, vo_a 300 vs') :: vo_c vs') → AW G mX3_init (d + 1) mc ms Q 49 [(0, .ref b), (1, .ref g), (2, .int (nI 300))] [] (ax_w h (A0 ++ (qa, vo_a 300 vs') :: vo_c vs')) (cn + 3 * i) (sn + 22 * i)) → AW G mX3_init (d + 1) mc ms Q 21 [(0, .ref b), (1, .ref g), (2, .int (nI vs.length))] [] (ax_w h (A0 ++ (qa, vo_a 300 vs) :: vo_c vs)) cn sn := by
  intro i
  induction i with
  | zero =>
    intro vs cn sn hl hw hcn hsn kk
    have hA : (A0 ++ (qa, vo_a 300 vs) :: vo_c vs)[0]? = some (b, .inr (3, fs)) := by rw [List.getElem?_append_left (List.getElem?_eq_some_iff.mp h0).1]; exact h0
    have hq : (A0 ++ (qa, vo_a 300 vs) :: vo_c vs)[A0.length]? = some (qa, vo_a 300 vs) := by rw [List.getElem?_append_right (Nat.le_refl _), Nat.sub_self]; rfl
    have hvl : vs.length = 300 := by omega
    refine ax_iload_n dX3_init_21 rfl ?_
    refine ax_aload_n dX3_init_22 rfl ?_
    refine ax_get (v := .ref qa) dX3_init_23 fkX3_17 (ax_w_get hw.1 hA) hf ?_
    refine ax_alen (n := 300) dX3_init_26 (ax_w_get hw.1 hq) (by decide) ?_
    refine ax_icmp_ge (tgt := 49) dX3_init_27 (by decide) (fun _ => ?_) (fun z => absurd (il_le 300 vs.length (by omega)) z)
    rw [hvl]
    exact kk vs hvl hw
  | succ i ih =>
    intro vs cn sn hl hw hcn hsn kk
    have hA : (A0 ++ (qa, vo_a 300 vs) :: vo_c vs)[0]? = some (b, .inr (3, fs)) := by rw [List.getElem?_append_left (List.getElem?_eq_some_iff.mp h0).1]; exact h0
    have hq : (A0 ++ (qa, vo_a 300 vs) :: vo_c vs)[A0.length]? = some (qa, vo_a 300 vs) := by rw [List.getElem?_append_right (Nat.le_refl _), Nat.sub_self]; rfl
    refine ax_iload_n dX3_init_21 rfl ?_
    refine ax_aload_n dX3_init_22 rfl ?_
    refine ax_get (v := .ref qa) dX3_init_23 fkX3_17 (ax_w_get hw.1 hA) hf ?_
    refine ax_alen (n := 300) dX3_init_26 (ax_w_get hw.1 hq) (by decide) ?_
    refine ax_icmp_ge (tgt := 49) dX3_init_27 (by decide) (fun z => absurd z (il_nle 300 vs.length (by omega))) (fun _ => ?_)
    refine ax_aload_n dX3_init_30 rfl ?_
    refine ax_get (v := .ref qa) dX3_init_31 fkX3_17 (ax_w_get hw.1 hA) hf ?_
    refine ax_iload_n dX3_init_34 rfl ?_
    refine ax_new dX3_init_35 mkX3_15 (by omega) (by show sn + 16 ≤ ms; omega) (fun q hqn => ?_)
    refine ax_eqh (ax_w_one _ q _) ?_
    refine ax_dup dX3_init_38 rfl ?_
    refine ax_callI (b := q) (av := []) (rest := [.ref q, .int (nI vs.length), .ref qa]) (mc' := 2) (ms' := 6) dX3_init_39 rfl lkX3_21 rfl (Nat.le_of_ble_eq_true rfl) (Nat.le_of_ble_eq_true rfl) (by omega) (by show sn + 16 + 6 ≤ ms; omega) (in5 d (ax_w h (A0 ++ (qa, vo_a 300 vs) :: vo_c vs)) q hqn (Q := fun r h9 => r = .inl none ∧ ∃ n p, ([q, n, p] : List Nat).Nodup ∧ ax_w h (A0 ++ (qa, vo_a 300 vs) :: vo_c vs) n = none ∧ ax_w h (A0 ++ (qa, vo_a 300 vs) :: vo_c vs) p = none ∧ h9 = ax_w (ax_w h (A0 ++ (qa, vo_a 300 vs) :: vo_c vs)) [(q, vo5 n p), (n, va3), (p, vr3)]) (fun n p z1 z2 z3 => ⟨rfl, n, p, z1, z2, z3, rfl⟩)) (fun E9 h9 q9 => by cases q9.1) (fun v9 h9 q9 => ?_)
    obtain ⟨e9, n, p, z1, z2, z3, rfl⟩ := q9
    cases e9
    obtain ⟨hw3, he3⟩ := wk_three (vo5 n p) va3 vr3 hw z1 hqn z2 z3
    refine ax_eqh he3 ?_
    have hq3 : ((A0 ++ (qa, vo_a 300 vs) :: vo_c vs) ++ [(q, vo5 n p), (n, va3), (p, vr3)])[A0.length]? = some (qa, vo_a 300 vs) := by rw [List.getElem?_append_left (List.getElem?_eq_some_iff.mp hq).1]; exact hq
    have hv3 : ((A0 ++ (qa, vo_a 300 vs) :: vo_c vs) ++ [(q, vo5 n p), (n, va3), (p, vr3)])[(A0 ++ (qa, vo_a 300 vs) :: vo_c vs).length]? = some (q, vo5 n p) := by rw [List.getElem?_append_right (Nat.le_refl _), Nat.sub_self]; rfl
    show AW G mX3_init (d + 1) mc ms Q 42 [(0, .ref b), (1, .ref g), (2, .int (nI vs.length))] [.ref q, .int (nI vs.length), .ref qa] _ _ _
    refine ax_aast3 dX3_init_42 (ax_w_get hw3.1 hq3) (ax_w_get hw3.1 hv3) (nI_in (by omega) (by decide)) ?_
    rw [nI_clamp (by omega), vo_a_snoc vs (q, n, p)]
    have hset : ((A0 ++ (qa, vo_a 300 vs) :: vo_c vs) ++ [(q, vo5 n p), (n, va3), (p, vr3)]).set A0.length (qa, vo_a 300 (vs ++ [(q, n, p)])) = A0 ++ (qa, vo_a 300 (vs ++ [(q, n, p)])) :: vo_c (vs ++ [(q, n, p)]) := by
      rw [vo_c_snoc, List.append_assoc, List.set_append, if_neg (Nat.lt_irrefl _), Nat.sub_self]; rfl
    refine ax_eqh (show _ = ax_w h (A0 ++ (qa, vo_a 300 (vs ++ [(q, n, p)])) :: vo_c (vs ++ [(q, n, p)])) by rw [← hset]; exact ax_w_set _ hw3.1 hq3) ?_
    have hw4 : wk h (A0 ++ (qa, vo_a 300 (vs ++ [(q, n, p)])) :: vo_c (vs ++ [(q, n, p)])) := by
      refine wk_keys hw3 ?_
      rw [vo_c_snoc]; simp
    refine ax_iinc (v := (nI (vs.length + 1))) dX3_init_43 rfl (nI_1 vs.length) (by decide) ?_
    refine ax_sub (lv' := [(0, .ref b), (1, .ref g), (2, .int (nI (vs.length + 1)))]) (fun _ z => z) ?_
    refine ax_goto (tgt := 21) dX3_init_46 (by decide) ?_
    have := ih (vs ++ [(q, n, p)]) (cn + 1 + 2) (sn + 16 + 6) (by rw [List.length_append]; show vs.length + 1 + i = 300; omega) hw4 (by omega) (by omega) (fun vs' e1 e2 => by
      have := kk vs' e1 e2
      rw [show cn + 1 + 2 + 3 * i = cn + 3 * (i + 1) by omega, show sn + 16 + 6 + 22 * i = sn + 22 * (i + 1) by omega]
      exact this)
    rw [List.length_append] at this
    exact this
set_option maxRecDepth 100000 in
set_option maxHeartbeats 4000000 in
theorem ivl3b (d mc ms : Nat) (h : ax_H) {b qa g : Nat} {A0 : List (Nat × ax_E)} {fs : List Value} (h0 : A0[0]? = some (b, .inr (3, fs))) (hf : fs[5]? = some (.ref qa)) {Q : ax_P} : ∀ (i : Nat) (vs : List vo_t) (cn sn : Nat), vs.length + i = 4 → wk h (A0 ++ (qa, vo_a 4 vs) :: vo_c vs) → cn + 3 * i ≤ mc → sn + 22 * i ≤ ms → (∀ vs' : List vo_t, vs'.length = 4 → wk h (A0 ++ (qa, vo_a 4 vs') :: vo_c vs') → AW G mX3_init (d + 1) mc ms Q 112 [(0, .ref b), (1, .ref g), (2, .int (nI 4))] [] (ax_w h (A0 ++ (qa, vo_a 4 vs') :: vo_c vs')) (cn + 3 * i) (sn + 22 * i)) → AW G mX3_init (d + 1) mc ms Q 84 [(0, .ref b), (1, .ref g), (2, .int (nI vs.length))] [] (ax_w h (A0 ++ (qa, vo_a 4 vs) :: vo_c vs)) cn sn := by
  intro i
  induction i with
  | zero =>
    intro vs cn sn hl hw hcn hsn kk
    have hA : (A0 ++ (qa, vo_a 4 vs) :: vo_c vs)[0]? = some (b, .inr (3, fs)) := by rw [List.getElem?_append_left (List.getElem?_eq_some_iff.mp h0).1]; exact h0
    have hq : (A0 ++ (qa, vo_a 4 vs) :: vo_c vs)[A0.length]? = some (qa, vo_a 4 vs) := by rw [List.getElem?_append_right (Nat.le_refl _), Nat.sub_self]; rfl
    have hvl : vs.length = 4 := by omega
    refine ax_iload_n dX3_init_84 rfl ?_
    refine ax_aload_n dX3_init_85 rfl ?_
    refine ax_get (v := .ref qa) dX3_init_86 fkX3_32 (ax_w_get hw.1 hA) hf ?_
    refine ax_alen (n := 4) dX3_init_89 (ax_w_get hw.1 hq) (by decide) ?_
    refine ax_icmp_ge (tgt := 112) dX3_init_90 (by decide) (fun _ => ?_) (fun z => absurd (il_le 4 vs.length (by omega)) z)
    rw [hvl]
    exact kk vs hvl hw
  | succ i ih =>
    intro vs cn sn hl hw hcn hsn kk
    have hA : (A0 ++ (qa, vo_a 4 vs) :: vo_c vs)[0]? = some (b, .inr (3, fs)) := by rw [List.getElem?_append_left (List.getElem?_eq_some_iff.mp h0).1]; exact h0
    have hq : (A0 ++ (qa, vo_a 4 vs) :: vo_c vs)[A0.length]? = some (qa, vo_a 4 vs) := by rw [List.getElem?_append_right (Nat.le_refl _), Nat.sub_self]; rfl
    refine ax_iload_n dX3_init_84 rfl ?_
    refine ax_aload_n dX3_init_85 rfl ?_
    refine ax_get (v := .ref qa) dX3_init_86 fkX3_32 (ax_w_get hw.1 hA) hf ?_
    refine ax_alen (n := 4) dX3_init_89 (ax_w_get hw.1 hq) (by decide) ?_
    refine ax_icmp_ge (tgt := 112) dX3_init_90 (by decide) (fun z => absurd z (il_nle 4 vs.length (by omega))) (fun _ => ?_)
    refine ax_aload_n dX3_init_93 rfl ?_
    refine ax_get (v := .ref qa) dX3_init_94 fkX3_32 (ax_w_get hw.1 hA) hf ?_
    refine ax_iload_n dX3_init_97 rfl ?_
    refine ax_new dX3_init_98 mkX3_15 (by omega) (by show sn + 16 ≤ ms; omega) (fun q hqn => ?_)
    refine ax_eqh (ax_w_one _ q _) ?_
    refine ax_dup dX3_init_101 rfl ?_
    refine ax_callI (b := q) (av := []) (rest := [.ref q, .int (nI vs.length), .ref qa]) (mc' := 2) (ms' := 6) dX3_init_102 rfl lkX3_21 rfl (Nat.le_of_ble_eq_true rfl) (Nat.le_of_ble_eq_true rfl) (by omega) (by show sn + 16 + 6 ≤ ms; omega) (in5 d (ax_w h (A0 ++ (qa, vo_a 4 vs) :: vo_c vs)) q hqn (Q := fun r h9 => r = .inl none ∧ ∃ n p, ([q, n, p] : List Nat).Nodup ∧ ax_w h (A0 ++ (qa, vo_a 4 vs) :: vo_c vs) n = none ∧ ax_w h (A0 ++ (qa, vo_a 4 vs) :: vo_c vs) p = none ∧ h9 = ax_w (ax_w h (A0 ++ (qa, vo_a 4 vs) :: vo_c vs)) [(q, vo5 n p), (n, va3), (p, vr3)]) (fun n p z1 z2 z3 => ⟨rfl, n, p, z1, z2, z3, rfl⟩)) (fun E9 h9 q9 => by cases q9.1) (fun v9 h9 q9 => ?_)
    obtain ⟨e9, n, p, z1, z2, z3, rfl⟩ := q9
    cases e9
    obtain ⟨hw3, he3⟩ := wk_three (vo5 n p) va3 vr3 hw z1 hqn z2 z3
    refine ax_eqh he3 ?_
    have hq3 : ((A0 ++ (qa, vo_a 4 vs) :: vo_c vs) ++ [(q, vo5 n p), (n, va3), (p, vr3)])[A0.length]? = some (qa, vo_a 4 vs) := by rw [List.getElem?_append_left (List.getElem?_eq_some_iff.mp hq).1]; exact hq
    have hv3 : ((A0 ++ (qa, vo_a 4 vs) :: vo_c vs) ++ [(q, vo5 n p), (n, va3), (p, vr3)])[(A0 ++ (qa, vo_a 4 vs) :: vo_c vs).length]? = some (q, vo5 n p) := by rw [List.getElem?_append_right (Nat.le_refl _), Nat.sub_self]; rfl
    show AW G mX3_init (d + 1) mc ms Q 105 [(0, .ref b), (1, .ref g), (2, .int (nI vs.length))] [.ref q, .int (nI vs.length), .ref qa] _ _ _
    refine ax_aast3 dX3_init_105 (ax_w_get hw3.1 hq3) (ax_w_get hw3.1 hv3) (nI_in (by omega) (by decide)) ?_
    rw [nI_clamp (by omega), vo_a_snoc vs (q, n, p)]
    have hset : ((A0 ++ (qa, vo_a 4 vs) :: vo_c vs) ++ [(q, vo5 n p), (n, va3), (p, vr3)]).set A0.length (qa, vo_a 4 (vs ++ [(q, n, p)])) = A0 ++ (qa, vo_a 4 (vs ++ [(q, n, p)])) :: vo_c (vs ++ [(q, n, p)]) := by
      rw [vo_c_snoc, List.append_assoc, List.set_append, if_neg (Nat.lt_irrefl _), Nat.sub_self]; rfl
    refine ax_eqh (show _ = ax_w h (A0 ++ (qa, vo_a 4 (vs ++ [(q, n, p)])) :: vo_c (vs ++ [(q, n, p)])) by rw [← hset]; exact ax_w_set _ hw3.1 hq3) ?_
    have hw4 : wk h (A0 ++ (qa, vo_a 4 (vs ++ [(q, n, p)])) :: vo_c (vs ++ [(q, n, p)])) := by
      refine wk_keys hw3 ?_
      rw [vo_c_snoc]; simp
    refine ax_iinc (v := (nI (vs.length + 1))) dX3_init_106 rfl (nI_1 vs.length) (by decide) ?_
    refine ax_sub (lv' := [(0, .ref b), (1, .ref g), (2, .int (nI (vs.length + 1)))]) (fun _ z => z) ?_
    refine ax_goto (tgt := 84) dX3_init_109 (by decide) ?_
    have := ih (vs ++ [(q, n, p)]) (cn + 1 + 2) (sn + 16 + 6) (by rw [List.length_append]; show vs.length + 1 + i = 4; omega) hw4 (by omega) (by omega) (fun vs' e1 e2 => by
      have := kk vs' e1 e2
      rw [show cn + 1 + 2 + 3 * i = cn + 3 * (i + 1) by omega, show sn + 16 + 6 + 22 * i = sn + 22 * (i + 1) by omega]
      exact this)
    rw [List.length_append] at this
    exact this
set_option maxRecDepth 100000 in
set_option maxHeartbeats 4000000 in
theorem ivl4 (d mc ms : Nat) (h : ax_H) {b qa g : Nat} {A0 : List (Nat × ax_E)} {fs : List Value} (h0 : A0[0]? = some (b, .inr (4, fs))) (hf : fs[2]? = some (.ref qa)) {Q : ax_P} : ∀ (i : Nat) (vs : List vo_t) (cn sn : Nat), vs.length + i = 8 → wk h (A0 ++ (qa, vo_a 8 vs) :: vo_c vs) → cn + 3 * i ≤ mc → sn + 22 * i ≤ ms → (∀ vs' : List vo_t, vs'.length = 8 → wk h (A0 ++ (qa, vo_a 8 vs') :: vo_c vs') → AW G mX4_init (d + 1) mc ms Q 56 [(0, .ref b), (1, .ref g), (2, .int (nI 8))] [] (ax_w h (A0 ++ (qa, vo_a 8 vs') :: vo_c vs')) (cn + 3 * i) (sn + 22 * i)) → AW G mX4_init (d + 1) mc ms Q 28 [(0, .ref b), (1, .ref g), (2, .int (nI vs.length))] [] (ax_w h (A0 ++ (qa, vo_a 8 vs) :: vo_c vs)) cn sn := by
  intro i
  induction i with
  | zero =>
    intro vs cn sn hl hw hcn hsn kk
    have hA : (A0 ++ (qa, vo_a 8 vs) :: vo_c vs)[0]? = some (b, .inr (4, fs)) := by rw [List.getElem?_append_left (List.getElem?_eq_some_iff.mp h0).1]; exact h0
    have hq : (A0 ++ (qa, vo_a 8 vs) :: vo_c vs)[A0.length]? = some (qa, vo_a 8 vs) := by rw [List.getElem?_append_right (Nat.le_refl _), Nat.sub_self]; rfl
    have hvl : vs.length = 8 := by omega
    refine ax_iload_n dX4_init_28 rfl ?_
    refine ax_aload_n dX4_init_29 rfl ?_
    refine ax_get (v := .ref qa) dX4_init_30 fkX4_21 (ax_w_get hw.1 hA) hf ?_
    refine ax_alen (n := 8) dX4_init_33 (ax_w_get hw.1 hq) (by decide) ?_
    refine ax_icmp_ge (tgt := 56) dX4_init_34 (by decide) (fun _ => ?_) (fun z => absurd (il_le 8 vs.length (by omega)) z)
    rw [hvl]
    exact kk vs hvl hw
  | succ i ih =>
    intro vs cn sn hl hw hcn hsn kk
    have hA : (A0 ++ (qa, vo_a 8 vs) :: vo_c vs)[0]? = some (b, .inr (4, fs)) := by rw [List.getElem?_append_left (List.getElem?_eq_some_iff.mp h0).1]; exact h0
    have hq : (A0 ++ (qa, vo_a 8 vs) :: vo_c vs)[A0.length]? = some (qa, vo_a 8 vs) := by rw [List.getElem?_append_right (Nat.le_refl _), Nat.sub_self]; rfl
    refine ax_iload_n dX4_init_28 rfl ?_
    refine ax_aload_n dX4_init_29 rfl ?_
    refine ax_get (v := .ref qa) dX4_init_30 fkX4_21 (ax_w_get hw.1 hA) hf ?_
    refine ax_alen (n := 8) dX4_init_33 (ax_w_get hw.1 hq) (by decide) ?_
    refine ax_icmp_ge (tgt := 56) dX4_init_34 (by decide) (fun z => absurd z (il_nle 8 vs.length (by omega))) (fun _ => ?_)
    refine ax_aload_n dX4_init_37 rfl ?_
    refine ax_get (v := .ref qa) dX4_init_38 fkX4_21 (ax_w_get hw.1 hA) hf ?_
    refine ax_iload_n dX4_init_41 rfl ?_
    refine ax_new dX4_init_42 mkX4_19 (by omega) (by show sn + 16 ≤ ms; omega) (fun q hqn => ?_)
    refine ax_eqh (ax_w_one _ q _) ?_
    refine ax_dup dX4_init_45 rfl ?_
    refine ax_callI (b := q) (av := []) (rest := [.ref q, .int (nI vs.length), .ref qa]) (mc' := 2) (ms' := 6) dX4_init_46 rfl lkX4_25 rfl (Nat.le_of_ble_eq_true rfl) (Nat.le_of_ble_eq_true rfl) (by omega) (by show sn + 16 + 6 ≤ ms; omega) (in5 d (ax_w h (A0 ++ (qa, vo_a 8 vs) :: vo_c vs)) q hqn (Q := fun r h9 => r = .inl none ∧ ∃ n p, ([q, n, p] : List Nat).Nodup ∧ ax_w h (A0 ++ (qa, vo_a 8 vs) :: vo_c vs) n = none ∧ ax_w h (A0 ++ (qa, vo_a 8 vs) :: vo_c vs) p = none ∧ h9 = ax_w (ax_w h (A0 ++ (qa, vo_a 8 vs) :: vo_c vs)) [(q, vo5 n p), (n, va3), (p, vr3)]) (fun n p z1 z2 z3 => ⟨rfl, n, p, z1, z2, z3, rfl⟩)) (fun E9 h9 q9 => by cases q9.1) (fun v9 h9 q9 => ?_)
    obtain ⟨e9, n, p, z1, z2, z3, rfl⟩ := q9
    cases e9
    obtain ⟨hw3, he3⟩ := wk_three (vo5 n p) va3 vr3 hw z1 hqn z2 z3
    refine ax_eqh he3 ?_
    have hq3 : ((A0 ++ (qa, vo_a 8 vs) :: vo_c vs) ++ [(q, vo5 n p), (n, va3), (p, vr3)])[A0.length]? = some (qa, vo_a 8 vs) := by rw [List.getElem?_append_left (List.getElem?_eq_some_iff.mp hq).1]; exact hq
    have hv3 : ((A0 ++ (qa, vo_a 8 vs) :: vo_c vs) ++ [(q, vo5 n p), (n, va3), (p, vr3)])[(A0 ++ (qa, vo_a 8 vs) :: vo_c vs).length]? = some (q, vo5 n p) := by rw [List.getElem?_append_right (Nat.le_refl _), Nat.sub_self]; rfl
    show AW G mX4_init (d + 1) mc ms Q 49 [(0, .ref b), (1, .ref g), (2, .int (nI vs.length))] [.ref q, .int (nI vs.length), .ref qa] _ _ _
    refine ax_aast3 dX4_init_49 (ax_w_get hw3.1 hq3) (ax_w_get hw3.1 hv3) (nI_in (by omega) (by decide)) ?_
    rw [nI_clamp (by omega), vo_a_snoc vs (q, n, p)]
    have hset : ((A0 ++ (qa, vo_a 8 vs) :: vo_c vs) ++ [(q, vo5 n p), (n, va3), (p, vr3)]).set A0.length (qa, vo_a 8 (vs ++ [(q, n, p)])) = A0 ++ (qa, vo_a 8 (vs ++ [(q, n, p)])) :: vo_c (vs ++ [(q, n, p)]) := by
      rw [vo_c_snoc, List.append_assoc, List.set_append, if_neg (Nat.lt_irrefl _), Nat.sub_self]; rfl
    refine ax_eqh (show _ = ax_w h (A0 ++ (qa, vo_a 8 (vs ++ [(q, n, p)])) :: vo_c (vs ++ [(q, n, p)])) by rw [← hset]; exact ax_w_set _ hw3.1 hq3) ?_
    have hw4 : wk h (A0 ++ (qa, vo_a 8 (vs ++ [(q, n, p)])) :: vo_c (vs ++ [(q, n, p)])) := by
      refine wk_keys hw3 ?_
      rw [vo_c_snoc]; simp
    refine ax_iinc (v := (nI (vs.length + 1))) dX4_init_50 rfl (nI_1 vs.length) (by decide) ?_
    refine ax_sub (lv' := [(0, .ref b), (1, .ref g), (2, .int (nI (vs.length + 1)))]) (fun _ z => z) ?_
    refine ax_goto (tgt := 28) dX4_init_53 (by decide) ?_
    have := ih (vs ++ [(q, n, p)]) (cn + 1 + 2) (sn + 16 + 6) (by rw [List.length_append]; show vs.length + 1 + i = 8; omega) hw4 (by omega) (by omega) (fun vs' e1 e2 => by
      have := kk vs' e1 e2
      rw [show cn + 1 + 2 + 3 * i = cn + 3 * (i + 1) by omega, show sn + 16 + 6 + 22 * i = sn + 22 * (i + 1) by omega]
      exact this)
    rw [List.length_append] at this
    exact this
end INI2
