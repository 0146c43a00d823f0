/-! ===== the reference: findReductions, rows of the second loop ===== -/
section RP19
variable {G : ax_G} {A : rw_Ad}
set_option maxRecDepth 100000 in
set_option maxHeartbeats 4000000 in
theorem fq_end (hA : rw_nd A) (d mc ms : Nat) (R : rw_S) (h : ax_H) {cn sn ca N : Nat} {f : Nat → Int32} (hca : rw_at A h ca (.inl (0, N, .inl f))) (hN : N ≤ 40) {a : Nat} (ha : a = N) {Q : ax_P} (hq : Q (.inl none) (rw_O A R h)) : AW G mX7_findReductions (d + 10) mc ms Q 95 [(0, .ref (A.1 0)), (1, .ref ca), (2, .int (nI a))] [] (rw_O A R h) cn sn := by
  refine ax_iload_n dX7_findReductions_95 rfl ?_
  refine ax_aload_n dX7_findReductions_96 rfl ?_
  refine ax_alen (n := N) dX7_findReductions_97 (rw_rd hca) (by decide) ?_
  refine ax_icmp_ge (tgt := 177) dX7_findReductions_98 (by decide) (fun _ => ?_) (fun z => absurd (il_le N a (by omega)) z)
  exact ax_vret (st := []) dX7_findReductions_177 rfl hq
set_option maxRecDepth 100000 in
set_option maxHeartbeats 4000000 in
theorem fq_con (hA : rw_nd A) (d mc ms : Nat) (R : rw_S) (h : ax_H) {cn sn ca N : Nat} {f : Nat → Int32} (hca : rw_at A h ca (.inl (0, N, .inl f))) (hN : N ≤ 40) {a : Nat} {c : Nat} (ha : a < N) (hx : f a = nI (100 + c)) (hc : c < 6) {Q : ax_P} (kk : AW G mX7_findReductions (d + 10) mc ms Q 95 [(0, .ref (A.1 0)), (1, .ref ca), (2, .int (nI (a + 1)))] [] (rw_O A R h) cn sn) : AW G mX7_findReductions (d + 10) mc ms Q 95 [(0, .ref (A.1 0)), (1, .ref ca), (2, .int (nI a))] [] (rw_O A R h) cn sn := by
  refine ax_iload_n dX7_findReductions_95 rfl ?_
  refine ax_aload_n dX7_findReductions_96 rfl ?_
  refine ax_alen (n := N) dX7_findReductions_97 (rw_rd hca) (by decide) ?_
  refine ax_icmp_ge (tgt := 177) dX7_findReductions_98 (by decide) (fun z => absurd z (il_nle N a ha)) (fun _ => ?_)
  refine ax_aload_n dX7_findReductions_101 rfl ?_
  refine ax_iload_n dX7_findReductions_102 rfl ?_
  refine ax_ialdv (x := (nI (100 + c))) dX7_findReductions_103 (rw_rd hca) (nI_in ha (by omega)) (by rw [nI_clamp (by omega)]; exact hx) ?_
  refine ax_istore_n dX7_findReductions_104 (by decide) ?_
  refine ax_sub (lv' := [(0, .ref (A.1 0)), (1, .ref ca), (2, .int (nI a)), (3, .int (nI (100 + c)))]) (fun _ z => z) ?_
  refine ax_iload_n dX7_findReductions_105 rfl ?_
  refine ax_bipush (v := 100) dX7_findReductions_106 (by decide) ?_
  refine ax_icmp_lt (tgt := 114) dX7_findReductions_108 (by decide) (fun z => absurd z (il_nlt (100 + c) 100 (by omega))) (fun _ => ?_)
  refine ax_goto (tgt := 171) dX7_findReductions_111 (by decide) ?_
  refine ax_iinc (v := (nI (a + 1))) dX7_findReductions_171 rfl (nI_1 a) (by decide) ?_
  refine ax_sub (lv' := [(0, .ref (A.1 0)), (1, .ref ca), (2, .int (nI (a + 1))), (3, .int (nI (100 + c)))]) (fun _ z => z) ?_
  refine ax_goto (tgt := 95) dX7_findReductions_174 (by decide) ?_
  exact ax_sub (fun q hq => List.mem_append_left [(3, Value.int (nI (100 + c)))] hq) kk
set_option maxRecDepth 100000 in
set_option maxHeartbeats 4000000 in
theorem fq_new (hA : rw_nd A) (d mc ms : Nat) (R : rw_S) (h : ax_H) {cn sn ca N : Nat} {f : Nat → Int32} (hca : rw_at A h ca (.inl (0, N, .inl f))) (hN : N ≤ 40) {a : Nat} {x lo : Nat} (ha : a < N) (hx : f a = nI x) (hx5 : x ≤ 5) (hlo : R.1 1 = nI lo) (hb1 : cn + 1 ≤ mc) (hb2 : sn + N ≤ ms) {Q : ax_P} (kk : ∀ (o : Nat) (h' : ax_H) (fo : Nat → Int32), hx_le h h' → h o = none → rw_at A h' o (.inl (0, N, .inl fo)) → (∀ j, j < N → fo j = f j) → AW G mX7_findReductions (d + 10) mc ms Q 136 [(0, .ref (A.1 0)), (1, .ref ca), (2, .int (nI a)), (3, .int (nI x)), (4, .ref o), (5, .int (nI lo))] [] (rw_O A R h') (cn + 1) (sn + N)) : AW G mX7_findReductions (d + 10) mc ms Q 95 [(0, .ref (A.1 0)), (1, .ref ca), (2, .int (nI a))] [] (rw_O A R h) cn sn := by
  refine ax_iload_n dX7_findReductions_95 rfl ?_
  refine ax_aload_n dX7_findReductions_96 rfl ?_
  refine ax_alen (n := N) dX7_findReductions_97 (rw_rd hca) (by decide) ?_
  refine ax_icmp_ge (tgt := 177) dX7_findReductions_98 (by decide) (fun z => absurd z (il_nle N a ha)) (fun _ => ?_)
  refine ax_aload_n dX7_findReductions_101 rfl ?_
  refine ax_iload_n dX7_findReductions_102 rfl ?_
  refine ax_ialdv (x := (nI x)) dX7_findReductions_103 (rw_rd hca) (nI_in ha (by omega)) (by rw [nI_clamp (by omega)]; exact hx) ?_
  refine ax_istore_n dX7_findReductions_104 (by decide) ?_
  refine ax_sub (lv' := [(0, .ref (A.1 0)), (1, .ref ca), (2, .int (nI a)), (3, .int (nI x))]) (fun _ z => z) ?_
  refine ax_iload_n dX7_findReductions_105 rfl ?_
  refine ax_bipush (v := 100) dX7_findReductions_106 (by decide) ?_
  refine ax_icmp_lt (tgt := 114) dX7_findReductions_108 (by decide) (fun _ => ?_) (fun z => absurd (il_lt x 100 (by omega)) z)
  refine ax_aload_n dX7_findReductions_114 rfl ?_
  refine ax_alen (n := N) dX7_findReductions_115 (rw_rd hca) (by decide) ?_
  refine ax_newa_int (N := N) dX7_findReductions_116 ax_aI (nI_pos (by omega)) (nI_clamp (by omega)) (by omega) hb1 hb2 (fun o ho => ?_)
  obtain ⟨b1, b2⟩ := rw_new hA ho
  refine ax_eqh (rw_up b1) ?_
  have hxt : rw_at A (va_up h o (some (.inl (0, N, .inl (fun _ => 0))))) o (.inl (0, N, .inl (fun _ => 0))) := ⟨ax_up_s, b1⟩
  have hcx : ca ≠ o := fun e => by have := hca.1; rw [e, b2] at this; cases this
  have hct : rw_at A (va_up h o (some (.inl (0, N, .inl (fun _ => 0))))) ca (.inl (0, N, .inl f)) := ⟨by rw [ax_up_n hcx]; exact hca.1, hca.2⟩
  refine ax_astore dX7_findReductions_118 (by decide) ?_
  refine ax_sub (lv' := [(0, .ref (A.1 0)), (1, .ref ca), (2, .int (nI a)), (3, .int (nI x)), (4, .ref o)]) (fun _ z => z) ?_
  refine ax_aload_n dX7_findReductions_120 rfl ?_
  refine ax_iconst (v := 0) dX7_findReductions_121 (by decide) ?_
  refine ax_aload dX7_findReductions_122 rfl ?_
  refine ax_iconst (v := 0) dX7_findReductions_124 (by decide) ?_
  refine ax_aload_n dX7_findReductions_125 rfl ?_
  refine ax_alen (n := N) dX7_findReductions_126 (rw_rd hct) (by omega) ?_
  refine ax_copy dX7_findReductions_127 mlX7_121 ax_cN ax_cS ax_iSys (Nat.le_of_ble_eq_true rfl) (rw_rd hct) (rw_rd hxt) (by decide) (by decide) (nI_pos (by omega)) (by rw [nI_clamp (by omega)]; exact Nat.le_of_eq (Nat.zero_add _)) (by rw [nI_clamp (by omega)]; exact Nat.le_of_eq (Nat.zero_add _)) ?_
  refine ax_eqh (rw_up b1) ?_
  refine ax_aload_n dX7_findReductions_130 rfl ?_
  refine ax_get (v := .int (nI lo)) dX7_findReductions_131 fkX7_66 (rw_g0 hA) (congrArg (fun z => some (Value.int z)) hlo) ?_
  refine ax_istore dX7_findReductions_134 (by decide) ?_
  refine ax_sub (lv' := [(0, .ref (A.1 0)), (1, .ref ca), (2, .int (nI a)), (3, .int (nI x)), (4, .ref o), (5, .int (nI lo))]) (fun _ z => z) ?_
  refine kk o _ _ (fun z q hz => ?_) b2 ⟨ax_up_s, b1⟩ (fun j hj => ?_)
  · have : z ≠ o := fun e => by rw [e, b2] at hz; cases hz
    rw [ax_up_n this, ax_up_n this]; exact hz
  · rw [nI_clamp (by omega), show (0 : Int32).toNatClampNeg = 0 by decide, pk_cpy_in (by omega) (by omega), show 0 + (j - 0) = j by omega]
set_option maxRecDepth 100000 in
set_option maxHeartbeats 4000000 in
theorem fq_e3 (hA : rw_nd A) (d mc ms : Nat) (R : rw_S) (h : ax_H) {cn sn ca N : Nat} {f : Nat → Int32} (hca : rw_at A h ca (.inl (0, N, .inl f))) (hN : N ≤ 40) {a : Nat} {x o m : Nat} (hm : x ≤ m) (hm5 : m ≤ 5) {Q : ax_P} (kk : AW G mX7_findReductions (d + 10) mc ms Q 95 [(0, .ref (A.1 0)), (1, .ref ca), (2, .int (nI (a + 1)))] [] (rw_O A R h) cn sn) : AW G mX7_findReductions (d + 10) mc ms Q 136 [(0, .ref (A.1 0)), (1, .ref ca), (2, .int (nI a)), (3, .int (nI x)), (4, .ref o), (5, .int (nI m))] [] (rw_O A R h) cn sn := by
  refine ax_iload dX7_findReductions_136 rfl ?_
  refine ax_iload_n dX7_findReductions_138 rfl ?_
  refine ax_icmp_ge (tgt := 171) dX7_findReductions_139 (by decide) (fun _ => ?_) (fun z => absurd (il_le x m hm) z)
  refine ax_iinc (v := (nI (a + 1))) dX7_findReductions_171 rfl (nI_1 a) (by decide) ?_
  refine ax_sub (lv' := [(0, .ref (A.1 0)), (1, .ref ca), (2, .int (nI (a + 1))), (3, .int (nI x)), (4, .ref o), (5, .int (nI m))]) (fun _ z => z) ?_
  refine ax_goto (tgt := 95) dX7_findReductions_174 (by decide) ?_
  exact ax_sub (fun q hq => List.mem_append_left [(3, Value.int (nI x)), (4, Value.ref o), (5, Value.int (nI m))] hq) kk

set_option maxRecDepth 100000 in
set_option maxHeartbeats 4000000 in
theorem fq_add (hA : rw_nd A) (d mc ms : Nat) (R : rw_S) (h : ax_H) {cn sn ca N a o : Nat} {fo : Nat → Int32} (hot : rw_at A h o (.inl (0, N, .inl fo))) (hN : N ≤ 40) (ha : a < N) {x m t : Nat} (hm : m < x) (hx5 : x ≤ 5) (h10 : R.1 10 = nI t) {v : Int32} (hcn : cn ≤ mc) (hsn : sn ≤ ms) (hfi : AW G mX7_find (d + 9) 0 0 (fun r h1 => r = .inl (some (.int v)) ∧ h1 = (rw_O A R (va_up h o (some (.inl (0, N, .inl (upd fo a (nI m)))))))) 0 [(0, .ref (A.1 0)), (1, .int (nI t)), (2, .ref o), (3, .int (nI N))] [] (rw_O A R (va_up h o (some (.inl (0, N, .inl (upd fo a (nI m))))))) 0 0) {P1 : rw_S → Prop} (had : AW G mX7_add (d + 9) 0 0 (fun r h1 => r = .inl none ∧ ∃ R', h1 = rw_O A R' (va_up h o (some (.inl (0, N, .inl (upd fo a (nI m)))))) ∧ P1 R') 0 [(0, .ref (A.1 0)), (1, .int v)] [] (rw_O A R (va_up h o (some (.inl (0, N, .inl (upd fo a (nI m))))))) 0 0) {Q : ax_P} (kk : ∀ R', P1 R' → AW G mX7_findReductions (d + 10) mc ms Q 136 [(0, .ref (A.1 0)), (1, .ref ca), (2, .int (nI a)), (3, .int (nI x)), (4, .ref o), (5, .int (nI (m + 1)))] [] (rw_O A R' (va_up h o (some (.inl (0, N, .inl (upd fo a (nI m))))))) cn sn) : AW G mX7_findReductions (d + 10) mc ms Q 136 [(0, .ref (A.1 0)), (1, .ref ca), (2, .int (nI a)), (3, .int (nI x)), (4, .ref o), (5, .int (nI m))] [] (rw_O A R h) cn sn := by
  refine ax_iload dX7_findReductions_136 rfl ?_
  refine ax_iload_n dX7_findReductions_138 rfl ?_
  refine ax_icmp_ge (tgt := 171) dX7_findReductions_139 (by decide) (fun z => absurd z (il_nle x m hm)) (fun _ => ?_)
  refine ax_aload dX7_findReductions_142 rfl ?_
  refine ax_iload_n dX7_findReductions_144 rfl ?_
  refine ax_iload dX7_findReductions_145 rfl ?_
  refine ax_iast dX7_findReductions_147 (rw_rd hot) (nI_in ha (by omega)) ?_
  refine ax_eqh (rw_up hot.2) ?_
  rw [show (nI a).toNatClampNeg = a from nI_clamp (by omega)]
  have hot2 : rw_at A (va_up h o (some (.inl (0, N, .inl (upd fo a (nI m)))))) o (.inl (0, N, .inl (upd fo a (nI m)))) := ⟨ax_up_s, hot.2⟩
  refine ax_aload_n dX7_findReductions_148 rfl ?_
  refine ax_aload_n dX7_findReductions_149 rfl ?_
  refine ax_aload_n dX7_findReductions_150 rfl ?_
  refine ax_get (v := .int (nI t)) dX7_findReductions_151 fkX7_26 (rw_g0 hA) (congrArg (fun z => some (Value.int z)) (h10)) ?_
  refine ax_aload dX7_findReductions_154 rfl ?_
  refine ax_aload dX7_findReductions_156 rfl ?_
  refine ax_alen (n := N) dX7_findReductions_158 (rw_rd hot2) (by decide) ?_
  refine ax_callV (b := (A.1 0)) (av := [.int (nI t), .ref o, .int (nI N)]) (rest := [.ref (A.1 0)]) (mc' := 0) (ms' := 0) dX7_findReductions_159 rfl lkX7_163 (rw_g0 hA) rfl (Nat.le_of_ble_eq_true rfl) (Nat.le_of_ble_eq_true rfl) (by omega) (by omega) (hfi) (fun E9 h9 q9 => by cases q9.1) (fun v9 h9 q9 => ?_)
  obtain ⟨e9, rfl⟩ := q9
  cases e9
  show AW G mX7_findReductions (d + 10) mc ms _ 162 [(0, .ref (A.1 0)), (1, .ref ca), (2, .int (nI a)), (3, .int (nI x)), (4, .ref o), (5, .int (nI m))] [.int v, .ref (A.1 0)] (rw_O A R (va_up h o (some (.inl (0, N, .inl (upd fo a (nI m))))))) cn sn
  refine ax_callV (b := (A.1 0)) (av := [.int v]) (rest := []) (mc' := 0) (ms' := 0) dX7_findReductions_162 rfl lkX7_178 (rw_g0 hA) rfl (Nat.le_of_ble_eq_true rfl) (Nat.le_of_ble_eq_true rfl) (by omega) (by omega) (had) (fun E9 h9 q9 => by cases q9.1) (fun v9 h9 q9 => ?_)
  obtain ⟨e9, R', rfl, w1⟩ := q9
  cases e9
  show AW G mX7_findReductions (d + 10) mc ms _ 165 [(0, .ref (A.1 0)), (1, .ref ca), (2, .int (nI a)), (3, .int (nI x)), (4, .ref o), (5, .int (nI m))] [] (rw_O A R' (va_up h o (some (.inl (0, N, .inl (upd fo a (nI m))))))) cn sn
  refine ax_iinc (v := (nI (m + 1))) dX7_findReductions_165 rfl (nI_1 m) (by decide) ?_
  refine ax_sub (lv' := [(0, .ref (A.1 0)), (1, .ref ca), (2, .int (nI a)), (3, .int (nI x)), (4, .ref o), (5, .int (nI (m + 1)))]) (fun _ z => z) ?_
  refine ax_goto (tgt := 136) dX7_findReductions_168 (by decide) ?_
  exact kk _ w1
end RP19
