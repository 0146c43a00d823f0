/-! ===== the reference: findReductions, rows ===== -/
section RP18
variable {G : ax_G} {A : rw_Ad}
set_option maxRecDepth 100000 in
set_option maxHeartbeats 4000000 in
theorem fr_int (hA : rw_nd A) (d mc ms : Nat) (R : rw_S) (h : ax_H) {cn sn ca N : Nat} {f : Nat → Int32} (hca : rw_at A h ca (.inl (0, N, .inl f))) (hN : N ≤ 40) {a : Nat} {x : Nat} (ha : a < N) (hx : f a = nI x) (hx5 : x ≤ 5) {Q : ax_P} (kk : AW G mX7_findReductions (d + 10) mc ms Q 17 [(0, .ref (A.1 0)), (1, .ref ca), (2, .int (nI (a + 1)))] [] (rw_O A R h) cn sn) : AW G mX7_findReductions (d + 10) mc ms Q 17 [(0, .ref (A.1 0)), (1, .ref ca), (2, .int (nI a))] [] (rw_O A R h) cn sn := by
  refine ax_iload_n dX7_findReductions_17 rfl ?_
  refine ax_aload_n dX7_findReductions_18 rfl ?_
  refine ax_alen (n := N) dX7_findReductions_19 (rw_rd hca) (by decide) ?_
  refine ax_icmp_ge (tgt := 93) dX7_findReductions_20 (by decide) (fun z => absurd z (il_nle N a ha)) (fun _ => ?_)
  refine ax_aload_n dX7_findReductions_23 rfl ?_
  refine ax_iload_n dX7_findReductions_24 rfl ?_
  refine ax_ialdv (x := (nI x)) dX7_findReductions_25 (rw_rd hca) (nI_in ha (by omega)) (by rw [nI_clamp (by omega)]; exact hx) ?_
  refine ax_bipush (v := 100) dX7_findReductions_26 (by decide) ?_
  refine ax_icmp_lt (tgt := 87) dX7_findReductions_28 (by decide) (fun _ => ?_) (fun z => absurd (il_lt x 100 (by omega)) z)
  refine ax_iinc (v := (nI (a + 1))) dX7_findReductions_87 rfl (nI_1 a) (by decide) ?_
  refine ax_sub (lv' := [(0, .ref (A.1 0)), (1, .ref ca), (2, .int (nI (a + 1)))]) (fun _ z => z) ?_
  refine ax_goto (tgt := 17) dX7_findReductions_90 (by decide) ?_
  exact kk
set_option maxRecDepth 100000 in
set_option maxHeartbeats 4000000 in
theorem fr_oth (hA : rw_nd A) (d mc ms : Nat) (R : rw_S) (h : ax_H) {cn sn ca N : Nat} {f : Nat → Int32} (hca : rw_at A h ca (.inl (0, N, .inl f))) (hN : N ≤ 40) {a : Nat} {c t u : Nat} (ha : a < N) (hx : f a = nI (100 + c)) (hc : c < 6) (how : R.2.1 1 c = nI u) (h10 : R.1 10 = nI t) (htu : u ≠ t) (hu : u < 4) (ht : t < 4) {Q : ax_P} (kk : AW G mX7_findReductions (d + 10) mc ms Q 17 [(0, .ref (A.1 0)), (1, .ref ca), (2, .int (nI (a + 1)))] [] (rw_O A R h) cn sn) : AW G mX7_findReductions (d + 10) mc ms Q 17 [(0, .ref (A.1 0)), (1, .ref ca), (2, .int (nI a))] [] (rw_O A R h) cn sn := by
  refine ax_iload_n dX7_findReductions_17 rfl ?_
  refine ax_aload_n dX7_findReductions_18 rfl ?_
  refine ax_alen (n := N) dX7_findReductions_19 (rw_rd hca) (by decide) ?_
  refine ax_icmp_ge (tgt := 93) dX7_findReductions_20 (by decide) (fun z => absurd z (il_nle N a ha)) (fun _ => ?_)
  refine ax_aload_n dX7_findReductions_23 rfl ?_
  refine ax_iload_n dX7_findReductions_24 rfl ?_
  refine ax_ialdv (x := (nI (100 + c))) dX7_findReductions_25 (rw_rd hca) (nI_in ha (by omega)) (by rw [nI_clamp (by omega)]; exact hx) ?_
  refine ax_bipush (v := 100) dX7_findReductions_26 (by decide) ?_
  refine ax_icmp_lt (tgt := 87) dX7_findReductions_28 (by decide) (fun z => absurd z (il_nlt (100 + c) 100 (by omega))) (fun _ => ?_)
  refine ax_aload_n dX7_findReductions_31 rfl ?_
  refine ax_get (v := .ref (A.1 1)) dX7_findReductions_32 fkX7_13 (rw_g0 hA) rfl ?_
  refine ax_aload_n dX7_findReductions_35 rfl ?_
  refine ax_iload_n dX7_findReductions_36 rfl ?_
  refine ax_ialdv (x := (nI (100 + c))) dX7_findReductions_37 (rw_rd hca) (nI_in ha (by omega)) (by rw [nI_clamp (by omega)]; exact hx) ?_
  refine ax_bipush (v := 100) dX7_findReductions_38 (by decide) ?_
  refine ax_isub dX7_findReductions_40 ?_
  refine ax_top (y := (nI c)) (by rw [show (100 : Int32) = nI 100 by decide, pk_sub (by omega), Nat.add_sub_cancel_left]) ?_
  refine ax_ialdv (x := (nI u)) dX7_findReductions_41 (rw_g1 hA) (nI_in hc (by decide)) (by rw [nI_clamp (by omega)]; exact how) ?_
  refine ax_aload_n dX7_findReductions_42 rfl ?_
  refine ax_get (v := .int (nI t)) dX7_findReductions_43 fkX7_26 (rw_g0 hA) (congrArg (fun z => some (Value.int z)) (h10)) ?_
  refine ax_icmp_eq (tgt := 52) dX7_findReductions_46 (by decide) (fun z => absurd z (il_ne u t htu)) (fun _ => ?_)
  refine ax_goto (tgt := 87) dX7_findReductions_49 (by decide) ?_
  refine ax_iinc (v := (nI (a + 1))) dX7_findReductions_87 rfl (nI_1 a) (by decide) ?_
  refine ax_sub (lv' := [(0, .ref (A.1 0)), (1, .ref ca), (2, .int (nI (a + 1)))]) (fun _ z => z) ?_
  refine ax_goto (tgt := 17) dX7_findReductions_90 (by decide) ?_
  exact kk
set_option maxRecDepth 100000 in
set_option maxHeartbeats 4000000 in
theorem fr_own (hA : rw_nd A) (d mc ms : Nat) (R : rw_S) (h : ax_H) {cn sn ca N : Nat} {f : Nat → Int32} (hca : rw_at A h ca (.inl (0, N, .inl f))) (hN : N ≤ 40) {a : Nat} {c t : Nat} (ha : a < N) (hx : f a = nI (100 + c)) (hc : c < 6) (how : R.2.1 1 c = nI t) (h10 : R.1 10 = nI t) (ht : t < 4) {Q : ax_P} (kk : AW G mX7_findReductions (d + 10) mc ms Q 52 [(0, .ref (A.1 0)), (1, .ref ca), (2, .int (nI a))] [] (rw_O A R h) cn sn) : AW G mX7_findReductions (d + 10) mc ms Q 17 [(0, .ref (A.1 0)), (1, .ref ca), (2, .int (nI a))] [] (rw_O A R h) cn sn := by
  refine ax_iload_n dX7_findReductions_17 rfl ?_
  refine ax_aload_n dX7_findReductions_18 rfl ?_
  refine ax_alen (n := N) dX7_findReductions_19 (rw_rd hca) (by decide) ?_
  refine ax_icmp_ge (tgt := 93) dX7_findReductions_20 (by decide) (fun z => absurd z (il_nle N a ha)) (fun _ => ?_)
  refine ax_aload_n dX7_findReductions_23 rfl ?_
  refine ax_iload_n dX7_findReductions_24 rfl ?_
  refine ax_ialdv (x := (nI (100 + c))) dX7_findReductions_25 (rw_rd hca) (nI_in ha (by omega)) (by rw [nI_clamp (by omega)]; exact hx) ?_
  refine ax_bipush (v := 100) dX7_findReductions_26 (by decide) ?_
  refine ax_icmp_lt (tgt := 87) dX7_findReductions_28 (by decide) (fun z => absurd z (il_nlt (100 + c) 100 (by omega))) (fun _ => ?_)
  refine ax_aload_n dX7_findReductions_31 rfl ?_
  refine ax_get (v := .ref (A.1 1)) dX7_findReductions_32 fkX7_13 (rw_g0 hA) rfl ?_
  refine ax_aload_n dX7_findReductions_35 rfl ?_
  refine ax_iload_n dX7_findReductions_36 rfl ?_
  refine ax_ialdv (x := (nI (100 + c))) dX7_findReductions_37 (rw_rd hca) (nI_in ha (by omega)) (by rw [nI_clamp (by omega)]; exact hx) ?_
  refine ax_bipush (v := 100) dX7_findReductions_38 (by decide) ?_
  refine ax_isub dX7_findReductions_40 ?_
  refine ax_top (y := (nI c)) (by rw [show (100 : Int32) = nI 100 by decide, pk_sub (by omega), Nat.add_sub_cancel_left]) ?_
  refine ax_ialdv (x := (nI t)) dX7_findReductions_41 (rw_g1 hA) (nI_in hc (by decide)) (by rw [nI_clamp (by omega)]; exact how) ?_
  refine ax_aload_n dX7_findReductions_42 rfl ?_
  refine ax_get (v := .int (nI t)) dX7_findReductions_43 fkX7_26 (rw_g0 hA) (congrArg (fun z => some (Value.int z)) (h10)) ?_
  refine ax_icmp_eq (tgt := 52) dX7_findReductions_46 (by decide) (fun _ => ?_) (fun z => absurd rfl z)
  exact kk

set_option maxRecDepth 100000 in
set_option maxHeartbeats 4000000 in
theorem fr_cpy (hA : rw_nd A) (d mc ms : Nat) (R : rw_S) (h : ax_H) {cn sn ca N : Nat} {f : Nat → Int32} (hca : rw_at A h ca (.inl (0, N, .inl f))) (hN : N ≤ 40) {a : Nat} {P : List Nat} (hP : a + P.length ≤ N) (hf : ∀ i z, P[i]? = some z → f (a + i) = nI z) (hend : AW G mX7_end (d + 9) 0 0 (fun r h1 => r = .inl (some (.int (nI (a + P.length)))) ∧ h1 = (rw_O A R h)) 0 [(0, .ref (A.1 0)), (1, .ref ca), (2, .int (nI a))] [] (rw_O A R h) 0 0) (hb1 : cn + 1 ≤ mc) (hb2 : sn + P.length ≤ ms) {Q : ax_P} (kk : ∀ (x : Nat) (h' : ax_H), hx_le h h' → rw_row A h' x P → AW G mX7_findReductions (d + 10) mc ms Q 72 [(0, .ref (A.1 0)), (1, .ref ca), (2, .int (nI a)), (3, .ref x)] [] (rw_O A R h') (cn + 1) (sn + P.length)) : AW G mX7_findReductions (d + 10) mc ms Q 52 [(0, .ref (A.1 0)), (1, .ref ca), (2, .int (nI a))] [] (rw_O A R h) cn sn := by
  refine ax_aload_n dX7_findReductions_52 rfl ?_
  refine ax_aload_n dX7_findReductions_53 rfl ?_
  refine ax_iload_n dX7_findReductions_54 rfl ?_
  refine ax_callV (b := (A.1 0)) (av := [.ref ca, .int (nI a)]) (rest := []) (mc' := 0) (ms' := 0) dX7_findReductions_55 rfl lkX7_106 (rw_g0 hA) rfl (Nat.le_of_ble_eq_true rfl) (Nat.le_of_ble_eq_true rfl) (by omega) (by omega) (hend) (fun E9 h9 q9 => by cases q9.1) (fun v9 h9 q9 => ?_)
  obtain ⟨e9, rfl⟩ := q9
  cases e9
  show AW G mX7_findReductions (d + 10) mc ms _ 58 [(0, .ref (A.1 0)), (1, .ref ca), (2, .int (nI a))] [.int (nI (a + P.length))] (rw_O A R h) cn sn
  refine ax_iload_n dX7_findReductions_58 rfl ?_
  refine ax_isub dX7_findReductions_59 ?_
  refine ax_top (y := (nI P.length)) (by rw [pk_sub (by omega), Nat.add_sub_cancel_left]) ?_
  refine ax_newa_int (N := P.length) dX7_findReductions_60 ax_aI (nI_pos (by omega)) (nI_clamp (by omega)) (by omega) hb1 hb2 (fun x hx => ?_)
  obtain ⟨b1, b2⟩ := rw_new hA hx
  refine ax_eqh (rw_up b1) ?_
  have hxt : rw_at A (va_up h x (some (.inl (0, P.length, .inl (fun _ => 0))))) x (.inl (0, P.length, .inl (fun _ => 0))) := ⟨ax_up_s, b1⟩
  have hcx : ca ≠ x := fun e => by have := hca.1; rw [e, b2] at this; cases this
  have hct : rw_at A (va_up h x (some (.inl (0, P.length, .inl (fun _ => 0))))) ca (.inl (0, N, .inl f)) := ⟨by rw [ax_up_n hcx]; exact hca.1, hca.2⟩
  refine ax_astore_n dX7_findReductions_62 (by decide) ?_
  refine ax_sub (lv' := [(0, .ref (A.1 0)), (1, .ref ca), (2, .int (nI a)), (3, .ref x)]) (fun _ z => z) ?_
  refine ax_aload_n dX7_findReductions_63 rfl ?_
  refine ax_iload_n dX7_findReductions_64 rfl ?_
  refine ax_aload_n dX7_findReductions_65 rfl ?_
  refine ax_iconst (v := 0) dX7_findReductions_66 (by decide) ?_
  refine ax_aload_n dX7_findReductions_67 rfl ?_
  refine ax_alen (n := P.length) dX7_findReductions_68 (rw_rd hxt) (by omega) ?_
  refine ax_copy dX7_findReductions_69 mlX7_121 ax_cN ax_cS ax_iSys (Nat.le_of_ble_eq_true rfl) (rw_rd hct) (rw_rd hxt) (nI_pos (by omega)) (by decide) (nI_pos (by omega)) (by rw [nI_clamp (by omega), nI_clamp (by omega)]; omega) (by rw [nI_clamp (by omega)]; exact Nat.le_of_eq (Nat.zero_add _)) ?_
  refine ax_eqh (rw_up b1) ?_
  refine kk x _ (fun z o hz => ?_) ⟨_, ⟨ax_up_s, b1⟩, fun i z hi => ?_⟩
  · have : z ≠ x := fun e => by rw [e, b2] at hz; cases hz
    rw [ax_up_n this, ax_up_n this]; exact hz
  · have hil := (List.getElem?_eq_some_iff.mp hi).1
    rw [nI_clamp (by omega), nI_clamp (by omega), show (0 : Int32).toNatClampNeg = 0 by decide, pk_cpy_in (by omega) (by omega), show a + (i - 0) = a + i by omega]
    exact hf i z hi

set_option maxRecDepth 100000 in
set_option maxHeartbeats 4000000 in
theorem fr_add (hA : rw_nd A) (d mc ms : Nat) (R : rw_S) (h : ax_H) {cn sn ca N : Nat} {f : Nat → Int32} (hca : rw_at A h ca (.inl (0, N, .inl f))) (hN : N ≤ 40) {a : Nat} {x n : Nat} {fx : Nat → Int32} (hxt : rw_at A h x (.inl (0, n, .inl fx))) (hn : n ≤ 40) {t : Nat} (h10 : R.1 10 = nI t) {v : Int32} (hcn : cn ≤ mc) (hsn : sn ≤ ms) (hfi : AW G mX7_find (d + 9) 0 0 (fun r h1 => r = .inl (some (.int v)) ∧ h1 = (rw_O A R h)) 0 [(0, .ref (A.1 0)), (1, .int (nI t)), (2, .ref x), (3, .int (nI n))] [] (rw_O A R h) 0 0) {P1 : rw_S → Prop} (had : AW G mX7_add (d + 9) 0 0 (fun r h1 => r = .inl none ∧ ∃ R', h1 = rw_O A R' h ∧ P1 R') 0 [(0, .ref (A.1 0)), (1, .int v)] [] (rw_O A R h) 0 0) {Q : ax_P} (kk : ∀ R', P1 R' → AW G mX7_findReductions (d + 10) mc ms Q 17 [(0, .ref (A.1 0)), (1, .ref ca), (2, .int (nI (a + 1)))] [] (rw_O A R' h) cn sn) : AW G mX7_findReductions (d + 10) mc ms Q 72 [(0, .ref (A.1 0)), (1, .ref ca), (2, .int (nI a)), (3, .ref x)] [] (rw_O A R h) cn sn := by
  refine ax_aload_n dX7_findReductions_72 rfl ?_
  refine ax_aload_n dX7_findReductions_73 rfl ?_
  refine ax_aload_n dX7_findReductions_74 rfl ?_
  refine ax_get (v := .int (nI t)) dX7_findReductions_75 fkX7_26 (rw_g0 hA) (congrArg (fun z => some (Value.int z)) (h10)) ?_
  refine ax_aload_n dX7_findReductions_78 rfl ?_
  refine ax_aload_n dX7_findReductions_79 rfl ?_
  refine ax_alen (n := n) dX7_findReductions_80 (rw_rd hxt) (by decide) ?_
  refine ax_callV (b := (A.1 0)) (av := [.int (nI t), .ref x, .int (nI n)]) (rest := [.ref (A.1 0)]) (mc' := 0) (ms' := 0) dX7_findReductions_81 rfl lkX7_163 (rw_g0 hA) rfl (Nat.le_of_ble_eq_true rfl) (Nat.le_of_ble_eq_true rfl) (by omega) (by omega) (hfi) (fun E9 h9 q9 => by cases q9.1) (fun v9 h9 q9 => ?_)
  obtain ⟨e9, rfl⟩ := q9
  cases e9
  show AW G mX7_findReductions (d + 10) mc ms _ 84 [(0, .ref (A.1 0)), (1, .ref ca), (2, .int (nI a)), (3, .ref x)] [.int v, .ref (A.1 0)] (rw_O A R h) cn sn
  refine ax_callV (b := (A.1 0)) (av := [.int v]) (rest := []) (mc' := 0) (ms' := 0) dX7_findReductions_84 rfl lkX7_178 (rw_g0 hA) rfl (Nat.le_of_ble_eq_true rfl) (Nat.le_of_ble_eq_true rfl) (by omega) (by omega) (had) (fun E9 h9 q9 => by cases q9.1) (fun v9 h9 q9 => ?_)
  obtain ⟨e9, R', rfl, w1⟩ := q9
  cases e9
  show AW G mX7_findReductions (d + 10) mc ms _ 87 [(0, .ref (A.1 0)), (1, .ref ca), (2, .int (nI a)), (3, .ref x)] [] (rw_O A R' h) cn sn
  refine ax_iinc (v := (nI (a + 1))) dX7_findReductions_87 rfl (nI_1 a) (by decide) ?_
  refine ax_sub (lv' := [(0, .ref (A.1 0)), (1, .ref ca), (2, .int (nI (a + 1))), (3, .ref x)]) (fun _ z => z) ?_
  refine ax_goto (tgt := 17) dX7_findReductions_90 (by decide) ?_
  exact ax_sub (fun q hq => List.mem_append_left [(3, Value.ref x)] hq) (kk _ w1)
set_option maxRecDepth 100000 in
set_option maxHeartbeats 4000000 in
theorem fr_mid (hA : rw_nd A) (d mc ms : Nat) (R : rw_S) (h : ax_H) {cn sn ca N : Nat} {f : Nat → Int32} (hca : rw_at A h ca (.inl (0, N, .inl f))) (hN : N ≤ 40) {a : Nat} (ha : a = N) {Q : ax_P} (kk : AW G mX7_findReductions (d + 10) mc ms Q 95 [(0, .ref (A.1 0)), (1, .ref ca), (2, .int (nI 1))] [] (rw_O A R h) cn sn) : AW G mX7_findReductions (d + 10) mc ms Q 17 [(0, .ref (A.1 0)), (1, .ref ca), (2, .int (nI a))] [] (rw_O A R h) cn sn := by
  refine ax_iload_n dX7_findReductions_17 rfl ?_
  refine ax_aload_n dX7_findReductions_18 rfl ?_
  refine ax_alen (n := N) dX7_findReductions_19 (rw_rd hca) (by decide) ?_
  refine ax_icmp_ge (tgt := 93) dX7_findReductions_20 (by decide) (fun _ => ?_) (fun z => absurd (il_le N a (by omega)) z)
  refine ax_iconst (v := 1) dX7_findReductions_93 (by decide) ?_
  refine ax_istore_n dX7_findReductions_94 (by decide) ?_
  refine ax_sub (lv' := [(0, .ref (A.1 0)), (1, .ref ca), (2, .int 1)]) (fun _ z => z) ?_
  exact kk
end RP18
