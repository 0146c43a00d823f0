/-! ===== codes: what a Value spells; Code.write ===== -/
def sp_ar (q : sp_C) : Nat := if q.2.1 = 10 then 0 else if q.2.2.1 = 10 then 1 else if q.2.2.2.1 = 10 then 2 else 3
theorem sp_ar_le (q : sp_C) : sp_ar q ≤ 3 := by unfold sp_ar; repeat' split
                                                all_goals omega
/-- the Value v of type t spells the code L; n bounds its depth -/
def st_cod (g : sp_G) (S : cs_S) : Nat → Nat → Nat → List Nat → Prop
  | 0, _, _, _ => False
  | n + 1, v, t, L => ∃ (c : Nat) (q : sp_C) (ps : List (List Nat)), v < 312 ∧ g.2.2.2[c]? = some q ∧ q.1 = t ∧ ps.length = sp_ar q ∧ cs_vf S v 2 = nI c ∧ cs_vf S v 3 = nI ps.length ∧ L = (100 + c) :: ps.flatten ∧ ∀ (j : Nat) (P : List Nat), ps[j]? = some P → (∃ m, m ≤ 5 ∧ sp_par q j = 9 ∧ P = [m] ∧ cs_vn S v j = nI m ∧ cs_vp S v j = none) ∨ (∃ w, sp_par q j < 4 ∧ cs_vp S v j = some w ∧ st_cod g S n w (sp_par q j) P)
theorem st_cod_cong {g : sp_G} {S S' : cs_S} (h : S'.2.2.2 = S.2.2.2) : ∀ {n v t : Nat} {L : List Nat}, st_cod g S n v t L → st_cod g S' n v t L := by
  intro n
  induction n with
  | zero => intro v t L z; exact z
  | succ n ih =>
    rintro v t L ⟨c, q, ps, h1, h2, h3, h4, h5, h6, h7, h8⟩
    refine ⟨c, q, ps, h1, h2, h3, h4, ?_, ?_, h7, fun j P hP => ?_⟩
    · show S'.2.2.2.1 v 2 = _; rw [h]; exact h5
    · show S'.2.2.2.1 v 3 = _; rw [h]; exact h6
    · rcases h8 j P hP with ⟨m, m1, m2, m3, m4, m5⟩ | ⟨w, w1, w2, w3⟩
      · refine Or.inl ⟨m, m1, m2, m3, ?_, ?_⟩
        · show S'.2.2.2.2.1 v j = _; rw [h]; exact m4
        · show S'.2.2.2.2.2.1 v j = _; rw [h]; exact m5
      · refine Or.inr ⟨w, w1, ?_, ih w3⟩
        show S'.2.2.2.2.2.1 v j = _; rw [h]; exact w2
def st_w (k : Nat) (L : List Nat) (S S' : cs_S) : Prop := S'.1 11 = nI (k + L.length) ∧ (∀ i, i ≠ 11 → S'.1 i = S.1 i) ∧ (∀ i, i ≠ 16 → S'.2.1 i = S.2.1 i) ∧ S'.2.2 = S.2.2 ∧ (∀ j, j < k → S'.2.1 16 j = S.2.1 16 j) ∧ ∀ i a, L[i]? = some a → S'.2.1 16 (k + i) = nI a
theorem st_w_nil {k : Nat} {S : cs_S} (h : S.1 11 = nI k) : st_w k [] S S := ⟨h, fun _ _ => rfl, fun _ _ => rfl, rfl, fun _ _ => rfl, fun i a z => by simp at z⟩
theorem st_w_app {k : Nat} {L M : List Nat} {S S1 S2 : cs_S} (h1 : st_w k L S S1) (h2 : st_w (k + L.length) M S1 S2) : st_w k (L ++ M) S S2 := by
  obtain ⟨a1, a2, a3, a4, a5, a6⟩ := h1
  obtain ⟨b1, b2, b3, b4, b5, b6⟩ := h2
  refine ⟨by rw [b1, List.length_append, Nat.add_assoc], fun i z => (b2 i z).trans (a2 i z), fun i z => (b3 i z).trans (a3 i z), b4.trans a4, fun j hj => (b5 j (by omega)).trans (a5 j hj), fun i a hi => ?_⟩
  by_cases hl : i < L.length
  · rw [List.getElem?_append_left hl] at hi
    rw [b5 (k + i) (by omega)]; exact a6 i a hi
  · rw [List.getElem?_append_right (by omega)] at hi
    have := b6 _ a hi
    rwa [show k + L.length + (i - L.length) = k + i by omega] at this
section COD
variable {G : ax_G} {ad : cs_K → Nat}
theorem cv_partAt0 (hi : cs_inj ad) (d : Nat) (S : cs_S) (h : ax_H) {v : Nat} (hv : v < 312) (k : Int32) : AW G mX5_partAt d 0 0 (fun r h1 => r = .inl (some ((va_rf (if k < 0 then none else (if (cs_vf S v 3) ≤ k then none else (if (3 : Int32) ≤ k then none else (cs_rf ad (cs_vp S v k.toNatClampNeg)))))))) ∧ h1 = cs_O ad S h) 0 [(0, .ref (ad (1, v))), (1, .int k)] [] (cs_O ad S h) 0 0 := by
  have hks : ∀ k ∈ ([(1, v), (3, v)] : List cs_K), k ∈ cs_keys := by
    intro k hk
    simp only [List.mem_cons, List.not_mem_nil, or_false] at hk
    rcases hk with rfl | rfl
    · exact cs_k1 hv
    · exact cs_k3 hv
  refine ax_eqh (cs_in hi (ks := [(1, v), (3, v)]) hks).symm ?_
  refine ax_mono (ctX5_partAt d (cs_O ad S h) (ad (1, v)) (ad (2, v)) (ad (3, v)) (cs_vf S v) k (fun j => cs_rf ad (cs_vp S v j)) (cs_nd hi hks (by simp))) ?_
  rintro r h1 ⟨e, rfl⟩
  exact ⟨e, cs_in hi hks⟩
theorem cv_partS (hi : cs_inj ad) (d : Nat) (S : cs_S) (h : ax_H) {v j m w : Nat} (hv : v < 312) (hm : cs_vf S v 3 = nI m) (hm3 : m ≤ 3) (hj : j < m) (hw : cs_vp S v j = some w) : AW G mX5_partAt d 0 0 (fun r h1 => r = .inl (some (.ref (ad (1, w)))) ∧ h1 = cs_O ad S h) 0 [(0, .ref (ad (1, v))), (1, .int (nI j))] [] (cs_O ad S h) 0 0 := by
  refine ax_mono (cv_partAt0 hi d S h hv (nI j)) ?_
  rintro r h1 ⟨e, e2⟩
  refine ⟨e.trans ?_, e2⟩
  rw [if_neg (nI_pos (by omega)), hm, if_neg (il_nle m j hj), if_neg (il_nle 3 j (by omega)), nI_clamp (by omega), hw]
  rfl
theorem cv_partN (hi : cs_inj ad) (d : Nat) (S : cs_S) (h : ax_H) {v j m : Nat} (hv : v < 312) (hm : cs_vf S v 3 = nI m) (hm3 : m ≤ 3) (hj : j < 4) (hw : j < m → cs_vp S v j = none) : AW G mX5_partAt d 0 0 (fun r h1 => r = .inl (some .null) ∧ h1 = cs_O ad S h) 0 [(0, .ref (ad (1, v))), (1, .int (nI j))] [] (cs_O ad S h) 0 0 := by
  refine ax_mono (cv_partAt0 hi d S h hv (nI j)) ?_
  rintro r h1 ⟨e, e2⟩
  refine ⟨e.trans ?_, e2⟩
  rw [if_neg (nI_pos (by omega)), hm]
  by_cases hjm : j < m
  · rw [if_neg (il_nle m j hjm), if_neg (il_nle 3 j (by omega)), nI_clamp (by omega), hw hjm]
    rfl
  · rw [if_pos (il_le m j (by omega))]; rfl
theorem ch_app (hi : cs_inj ad) (d : Nat) (S : cs_S) (h : ax_H) {k : Nat} {x : Int32} (a : Nat) (hx : x = nI a) (h11 : S.1 11 = nI k) (hk : k < 32) : AW G mX0_append d 0 0 (fun r h1 => r = .inl none ∧ ∃ S', h1 = cs_O ad S' h ∧ st_w k [a] S S') 0 [(0, .ref (ad (0, 15))), (1, .int x)] [] (cs_O ad S h) 0 0 := by
  subst hx
  have hks := cg_k2 (i := 15) (j := 16) (by decide) (by decide)
  refine ax_eqh (cs_in hi (ks := [(0, 15), (0, 16)]) hks).symm ?_
  refine ax_mono (ctX0_append d (cs_O ad S h) (ad (0, 15)) (ad (0, 16)) (S.1 11) (nI a) (S.2.1 16) (by rw [h11]; exact nI_pos (by omega)) (by rw [h11]; exact nI_ge hk (by decide)) (cs_nd hi hks (by simp))) ?_
  rintro r h1 ⟨e, rfl⟩
  refine ⟨e, cs_setS (cs_setA S 16 (upd (S.2.1 16) k (nI a))) 11 (nI (k + 1)), ?_, rfl, fun i z => pk_un z, fun i z => by simp [cs_setS, cs_setA, va_up, z], rfl, fun j z => ?_, fun i b hb => ?_⟩
  · have h2 := cs_upd hi (S := S) (S' := cs_setS (cs_setA S 16 (upd (S.2.1 16) k (nI a))) 11 (nI (k + 1))) (h := h) (ks := [(0, 15), (0, 16)]) hks (fun k9 hk1 hk2 => by
      rcases cs_cases hk1 with ⟨h0, hlt⟩ | h0
      · obtain ⟨a9, w⟩ := k9
        cases h0
        match w, hlt, hk2 with
        | 0, _, _ => rfl
        | 1, _, _ => rfl
        | 2, _, _ => rfl
        | 3, _, _ => rfl
        | 4, _, _ => rfl
        | 5, _, _ => rfl
        | 6, _, _ => rfl
        | 7, _, _ => rfl
        | 8, _, _ => rfl
        | 9, _, _ => rfl
        | 10, _, _ => rfl
        | 11, _, _ => rfl
        | 12, _, _ => rfl
        | 13, _, _ => rfl
        | 14, _, _ => rfl
        | 15, _, hk2 => exact absurd (by simp) hk2
        | 16, _, hk2 => exact absurd (by simp) hk2
        | 17, _, _ => rfl
        | 18, _, _ => rfl
        | w + 19, hlt, _ => exact absurd hlt (by simp)
      · rw [cs_othS h0, cs_othA h0])
    rw [← h2, h11, nI_1, nI_clamp (by omega)]
    rfl
  · show upd (S.2.1 16) k (nI a) j = _
    exact pk_un (by omega)
  · have : i = 0 := by have := (List.getElem?_eq_some_iff.mp hb).1; simp at this; omega
    subst this
    simp at hb
    subst hb
    exact pk_us

set_option maxRecDepth 100000 in
set_option maxHeartbeats 4000000 in
theorem wr_int (hi : cs_inj ad) (d : Nat) (S : cs_S) (h : ax_H) {v dp j mm k : Nat} (hv : v < 312) (h3 : cs_vf S v 3 = nI mm) (hm3 : mm ≤ 3) (hj : j < mm) {Q : ax_P} {m : Nat} (hvp : cs_vp S v j = none) (hn0 : cs_vn S v j = nI m) (h11 : S.1 11 = nI k) (hk : k < 32) (k9 : ∀ S1, st_w k [m] S S1 → AW G mX0_appendValue (d + 1) 0 0 Q 20 [(0, .ref (ad (0, 15))), (1, .ref (ad (1, v))), (2, .int (nI dp)), (3, .int (nI (j + 1)))] [] (cs_O ad S1 h) 0 0) : AW G mX0_appendValue (d + 1) 0 0 Q 20 [(0, .ref (ad (0, 15))), (1, .ref (ad (1, v))), (2, .int (nI dp)), (3, .int (nI j))] [] (cs_O ad S h) 0 0 := by
  have hn : cs_vn S v (nI j).toNatClampNeg = nI m := by rw [nI_clamp (by omega)]; exact hn0
  refine ax_iload_n dX0_appendValue_20 rfl ?_
  refine ax_aload_n dX0_appendValue_21 rfl ?_
  refine ax_get (v := .int (nI mm)) dX0_appendValue_22 fkX0_32 (cs_get hi (cs_k1 hv)) (congrArg (fun z => some (Value.int z)) (h3)) ?_
  refine ax_icmp_ge (tgt := 73) dX0_appendValue_25 (by decide) (fun z => absurd z (il_nle mm j hj)) (fun _ => ?_)
  refine ax_iload_n dX0_appendValue_28 rfl ?_
  refine ax_iconst (v := 3) dX0_appendValue_29 (by decide) ?_
  refine ax_icmp_ge (tgt := 73) dX0_appendValue_30 (by decide) (fun z => absurd z (il_nle 3 j (by omega))) (fun _ => ?_)
  refine ax_aload_n dX0_appendValue_33 rfl ?_
  refine ax_iload_n dX0_appendValue_34 rfl ?_
  refine ax_callV (b := (ad (1, v))) (av := [.int (nI j)]) (rest := []) (mc' := 0) (ms' := 0) dX0_appendValue_35 rfl lkX0_35 (cs_get hi (cs_k1 hv)) rfl (Nat.le_of_ble_eq_true rfl) (Nat.le_of_ble_eq_true rfl) (Nat.le_refl 0) (Nat.le_refl 0) (cv_partN hi _ S h hv h3 hm3 (by omega) (fun _ => hvp)) (fun E9 h9 q9 => by cases q9.1) (fun v9 h9 q9 => ?_)
  obtain ⟨e9, rfl⟩ := q9
  cases e9
  show AW G mX0_appendValue (d + 1) 0 0 Q 38 [(0, .ref (ad (0, 15))), (1, .ref (ad (1, v))), (2, .int (nI dp)), (3, .int (nI j))] [.null] (cs_O ad S h) 0 0
  refine ax_astoreN dX0_appendValue_38 (by decide) ?_
  refine ax_sub (lv' := [(0, .ref (ad (0, 15))), (1, .ref (ad (1, v))), (2, .int (nI dp)), (3, .int (nI j)), (4, .null)]) (fun _ z => z) ?_
  refine ax_aloadN dX0_appendValue_40 rfl ?_
  refine ax_ifnullN (tgt := 57) dX0_appendValue_42 (by decide) ?_
  refine ax_aload_n dX0_appendValue_57 rfl ?_
  refine ax_aload_n dX0_appendValue_58 rfl ?_
  refine ax_get (v := .ref (ad (2, v))) dX0_appendValue_59 fkX0_39 (cs_get hi (cs_k1 hv)) rfl ?_
  refine ax_iload_n dX0_appendValue_62 rfl ?_
  refine ax_iald dX0_appendValue_63 (cs_get hi (cs_k2 hv)) (pk_in j 3 (by omega)) ?_
  refine ax_callV (b := (ad (0, 15))) (av := [.int ((cs_vn S v) (nI j).toNatClampNeg)]) (rest := []) (mc' := 0) (ms' := 0) dX0_appendValue_64 rfl lkX0_28 (cs_get hi (cs_k0 (by decide))) rfl (Nat.le_of_ble_eq_true rfl) (Nat.le_of_ble_eq_true rfl) (Nat.le_refl 0) (Nat.le_refl 0) (ch_app hi _ S h m hn h11 hk) (fun E9 h9 q9 => by cases q9.1) (fun v9 h9 q9 => ?_)
  obtain ⟨e9, S1, rfl, o1⟩ := q9
  cases e9
  show AW G mX0_appendValue (d + 1) 0 0 Q 67 [(0, .ref (ad (0, 15))), (1, .ref (ad (1, v))), (2, .int (nI dp)), (3, .int (nI j)), (4, .null)] [] (cs_O ad S1 h) 0 0
  refine ax_iinc (v := nI (j + 1)) dX0_appendValue_67 rfl (nI_1 j) (by decide) ?_
  refine ax_sub (lv' := [(0, .ref (ad (0, 15))), (1, .ref (ad (1, v))), (2, .int (nI dp)), (3, .int (nI (j + 1))), (4, .null)]) (fun _ z => z) ?_
  refine ax_goto (tgt := 20) dX0_appendValue_70 (by decide) ?_
  exact ax_sub (lv' := [(0, .ref (ad (0, 15))), (1, .ref (ad (1, v))), (2, .int (nI dp)), (3, .int (nI (j + 1)))]) (fun _ hz => List.take_subset 4 _ hz) (k9 S1 o1)
set_option maxRecDepth 100000 in
set_option maxHeartbeats 4000000 in
theorem wr_part (hi : cs_inj ad) (d : Nat) (S : cs_S) (h : ax_H) {v dp j mm k : Nat} (hv : v < 312) (h3 : cs_vf S v 3 = nI mm) (hm3 : mm ≤ 3) (hj : j < mm) {Q : ax_P} {w : Nat} (hw : w < 312) (hvp : cs_vp S v j = some w) {R9 : cs_S → Prop} (IH : AW G mX0_appendValue d 0 0 (fun r h1 => r = .inl none ∧ ∃ S1, h1 = cs_O ad S1 h ∧ R9 S1) 0 [(0, .ref (ad (0, 15))), (1, .ref (ad (1, w))), (2, .int (nI (dp + 1)))] [] (cs_O ad S h) 0 0) (k9 : ∀ S1, R9 S1 → AW G mX0_appendValue (d + 1) 0 0 Q 20 [(0, .ref (ad (0, 15))), (1, .ref (ad (1, v))), (2, .int (nI dp)), (3, .int (nI (j + 1)))] [] (cs_O ad S1 h) 0 0) : AW G mX0_appendValue (d + 1) 0 0 Q 20 [(0, .ref (ad (0, 15))), (1, .ref (ad (1, v))), (2, .int (nI dp)), (3, .int (nI j))] [] (cs_O ad S h) 0 0 := by
  refine ax_iload_n dX0_appendValue_20 rfl ?_
  refine ax_aload_n dX0_appendValue_21 rfl ?_
  refine ax_get (v := .int (nI mm)) dX0_appendValue_22 fkX0_32 (cs_get hi (cs_k1 hv)) (congrArg (fun z => some (Value.int z)) (h3)) ?_
  refine ax_icmp_ge (tgt := 73) dX0_appendValue_25 (by decide) (fun z => absurd z (il_nle mm j hj)) (fun _ => ?_)
  refine ax_iload_n dX0_appendValue_28 rfl ?_
  refine ax_iconst (v := 3) dX0_appendValue_29 (by decide) ?_
  refine ax_icmp_ge (tgt := 73) dX0_appendValue_30 (by decide) (fun z => absurd z (il_nle 3 j (by omega))) (fun _ => ?_)
  refine ax_aload_n dX0_appendValue_33 rfl ?_
  refine ax_iload_n dX0_appendValue_34 rfl ?_
  refine ax_callV (b := (ad (1, v))) (av := [.int (nI j)]) (rest := []) (mc' := 0) (ms' := 0) dX0_appendValue_35 rfl lkX0_35 (cs_get hi (cs_k1 hv)) rfl (Nat.le_of_ble_eq_true rfl) (Nat.le_of_ble_eq_true rfl) (Nat.le_refl 0) (Nat.le_refl 0) (cv_partS hi _ S h hv h3 hm3 hj hvp) (fun E9 h9 q9 => by cases q9.1) (fun v9 h9 q9 => ?_)
  obtain ⟨e9, rfl⟩ := q9
  cases e9
  show AW G mX0_appendValue (d + 1) 0 0 Q 38 [(0, .ref (ad (0, 15))), (1, .ref (ad (1, v))), (2, .int (nI dp)), (3, .int (nI j))] [.ref (ad (1, w))] (cs_O ad S h) 0 0
  refine ax_astore dX0_appendValue_38 (by decide) ?_
  refine ax_sub (lv' := [(0, .ref (ad (0, 15))), (1, .ref (ad (1, v))), (2, .int (nI dp)), (3, .int (nI j)), (4, .ref (ad (1, w)))]) (fun _ z => z) ?_
  refine ax_aload dX0_appendValue_40 rfl ?_
  refine ax_ifnull dX0_appendValue_42 ?_
  refine ax_aload_n dX0_appendValue_45 rfl ?_
  refine ax_aload dX0_appendValue_46 rfl ?_
  refine ax_iload_n dX0_appendValue_48 rfl ?_
  refine ax_iconst (v := 1) dX0_appendValue_49 (by decide) ?_
  refine ax_iadd dX0_appendValue_50 ?_
  refine ax_top (y := (nI (dp + 1))) (nI_1 dp) ?_
  refine ax_callV (b := (ad (0, 15))) (av := [.ref (ad (1, w)), .int (nI (dp + 1))]) (rest := []) (mc' := 0) (ms' := 0) dX0_appendValue_51 rfl lkX0_19 (cs_get hi (cs_k0 (by decide))) rfl (Nat.le_of_ble_eq_true rfl) (Nat.le_of_ble_eq_true rfl) (Nat.le_refl 0) (Nat.le_refl 0) (IH) (fun E9 h9 q9 => by cases q9.1) (fun v9 h9 q9 => ?_)
  obtain ⟨e9, S1, rfl, o1⟩ := q9
  cases e9
  show AW G mX0_appendValue (d + 1) 0 0 Q 54 [(0, .ref (ad (0, 15))), (1, .ref (ad (1, v))), (2, .int (nI dp)), (3, .int (nI j)), (4, .ref (ad (1, w)))] [] (cs_O ad S1 h) 0 0
  refine ax_goto (tgt := 67) dX0_appendValue_54 (by decide) ?_
  refine ax_iinc (v := nI (j + 1)) dX0_appendValue_67 rfl (nI_1 j) (by decide) ?_
  refine ax_sub (lv' := [(0, .ref (ad (0, 15))), (1, .ref (ad (1, v))), (2, .int (nI dp)), (3, .int (nI (j + 1))), (4, .ref (ad (1, w)))]) (fun _ z => z) ?_
  refine ax_goto (tgt := 20) dX0_appendValue_70 (by decide) ?_
  exact ax_sub (lv' := [(0, .ref (ad (0, 15))), (1, .ref (ad (1, v))), (2, .int (nI dp)), (3, .int (nI (j + 1)))]) (fun _ hz => List.take_subset 4 _ hz) (k9 S1 o1)
set_option maxRecDepth 100000 in
set_option maxHeartbeats 4000000 in
theorem wr_end (hi : cs_inj ad) (d : Nat) (S : cs_S) (h : ax_H) {v dp mm : Nat} (hv : v < 312) (h3 : cs_vf S v 3 = nI mm) (hm3 : mm ≤ 3) {Q : ax_P} (hq : Q (.inl none) (cs_O ad S h)) : AW G mX0_appendValue d 0 0 Q 20 [(0, .ref (ad (0, 15))), (1, .ref (ad (1, v))), (2, .int (nI dp)), (3, .int (nI mm))] [] (cs_O ad S h) 0 0 := by
  refine ax_iload_n dX0_appendValue_20 rfl ?_
  refine ax_aload_n dX0_appendValue_21 rfl ?_
  refine ax_get (v := .int (nI mm)) dX0_appendValue_22 fkX0_32 (cs_get hi (cs_k1 hv)) (congrArg (fun z => some (Value.int z)) (h3)) ?_
  refine ax_icmp_ge (tgt := 73) dX0_appendValue_25 (by decide) (fun _ => ?_) (fun z => absurd (il_le mm mm (Nat.le_refl _)) z)
  exact ax_vret (st := []) dX0_appendValue_73 rfl hq
set_option maxRecDepth 100000 in
set_option maxHeartbeats 4000000 in
theorem wr_beg (hi : cs_inj ad) (d : Nat) (S : cs_S) (h : ax_H) {v dp c k : Nat} (hv : v < 312) (hdp : dp ≤ 8) (h2 : cs_vf S v 2 = nI c) (h11 : S.1 11 = nI k) (hk : k < 32) {Q : ax_P} (k9 : ∀ S1, st_w k [100 + c] S S1 → AW G mX0_appendValue (d + 1) 0 0 Q 20 [(0, .ref (ad (0, 15))), (1, .ref (ad (1, v))), (2, .int (nI dp)), (3, .int (nI 0))] [] (cs_O ad S1 h) 0 0) : AW G mX0_appendValue (d + 1) 0 0 Q 0 [(0, .ref (ad (0, 15))), (1, .ref (ad (1, v))), (2, .int (nI dp))] [] (cs_O ad S h) 0 0 := by
  refine ax_iload_n dX0_appendValue_0 rfl ?_
  refine ax_bipush (v := 8) dX0_appendValue_1 (by decide) ?_
  refine ax_icmp_le (tgt := 7) dX0_appendValue_3 (by decide) (fun _ => ?_) (fun z => absurd (il_le dp 8 hdp) z)
  refine ax_aload_n dX0_appendValue_7 rfl ?_
  refine ax_bipush (v := 100) dX0_appendValue_8 (by decide) ?_
  refine ax_aload_n dX0_appendValue_10 rfl ?_
  refine ax_get (v := .int (nI c)) dX0_appendValue_11 fkX0_23 (cs_get hi (cs_k1 hv)) (congrArg (fun z => some (Value.int z)) (h2)) ?_
  refine ax_iadd dX0_appendValue_14 ?_
  refine ax_callV (b := (ad (0, 15))) (av := [.int (100 + (nI c))]) (rest := []) (mc' := 0) (ms' := 0) dX0_appendValue_15 rfl lkX0_28 (cs_get hi (cs_k0 (by decide))) rfl (Nat.le_of_ble_eq_true rfl) (Nat.le_of_ble_eq_true rfl) (Nat.le_refl 0) (Nat.le_refl 0) (ch_app hi _ S h (100 + c) (by rw [show (100 : Int32) = nI 100 by decide, nI_add]) h11 hk) (fun E9 h9 q9 => by cases q9.1) (fun v9 h9 q9 => ?_)
  obtain ⟨e9, S1, rfl, o1⟩ := q9
  cases e9
  show AW G mX0_appendValue (d + 1) 0 0 Q 18 [(0, .ref (ad (0, 15))), (1, .ref (ad (1, v))), (2, .int (nI dp))] [] (cs_O ad S1 h) 0 0
  refine ax_iconst (v := 0) dX0_appendValue_18 (by decide) ?_
  refine ax_istore_n dX0_appendValue_19 (by decide) ?_
  refine ax_sub (lv' := [(0, .ref (ad (0, 15))), (1, .ref (ad (1, v))), (2, .int (nI dp)), (3, .int 0)]) (fun _ z => z) ?_
  exact k9 S1 o1
theorem wr_val (hi : cs_inj ad) {g : sp_G} (h : ax_H) : ∀ (n v t : Nat) (L : List Nat) (S : cs_S), st_cod g S n v t L → ∀ (d dp k : Nat) (Q : ax_P), n ≤ d → dp + n ≤ 9 → S.1 11 = nI k → k + L.length ≤ 32 → (∀ S', st_w k L S S' → Q (.inl none) (cs_O ad S' h)) →
    AW G mX0_appendValue (d + 1) 0 0 Q 0 [(0, .ref (ad (0, 15))), (1, .ref (ad (1, v))), (2, .int (nI dp))] [] (cs_O ad S h) 0 0 := by
  intro n
  induction n with
  | zero => intro v t L S z; exact z.elim
  | succ n ih =>
    rintro v t L S ⟨c, q, ps, h1, h2, h3, h4, h5, h6, h7, h8⟩ d dp k Q hd hdp h11 hk hQ
    have hm3 : ps.length ≤ 3 := by rw [h4]; exact sp_ar_le q
    rw [h7, List.length_cons] at hk
    refine wr_beg hi d S h h1 (by omega) h5 h11 (by omega) (fun S1 o1 => ?_)
    have loop : ∀ (i j k' : Nat) (S' : cs_S), j + i = ps.length → S'.2.2 = S.2.2 → S'.1 11 = nI k' → k' + (ps.drop j).flatten.length ≤ 32 → (∀ S'', st_w k' (ps.drop j).flatten S' S'' → Q (.inl none) (cs_O ad S'' h)) → AW G mX0_appendValue (d + 1) 0 0 Q 20 [(0, .ref (ad (0, 15))), (1, .ref (ad (1, v))), (2, .int (nI dp)), (3, .int (nI j))] [] (cs_O ad S' h) 0 0 := by
      intro i
      induction i with
      | zero =>
        intro j k' S' hj hS h11 hk hQ
        have hjl : j = ps.length := by omega
        subst hjl
        refine wr_end hi (d + 1) S' h h1 (by show S'.2.2.2.1 v 3 = _; rw [hS]; exact h6) hm3 (hQ S' ?_)
        rw [List.drop_length, List.flatten_nil]
        exact st_w_nil h11
      | succ i ihi =>
        intro j k' S' hj hS h11 hk hQ
        have hjl : j < ps.length := by omega
        have hP : ps[j]? = some ps[j] := List.getElem?_eq_getElem hjl
        have hdr : ps.drop j = ps[j] :: ps.drop (j + 1) := List.drop_eq_getElem_cons hjl
        rw [hdr, List.flatten_cons] at hk hQ
        rw [List.length_append] at hk
        have h3' : cs_vf S' v 3 = nI ps.length := by show S'.2.2.2.1 v 3 = _; rw [hS]; exact h6
        rcases h8 j _ hP with ⟨m, m1, m2, m3, m4, m5⟩ | ⟨w, w1, w2, w3⟩
        · rw [m3] at hk hQ
          refine wr_int hi d S' h h1 h3' hm3 hjl (m := m) (by show S'.2.2.2.2.2.1 v j = _; rw [hS]; exact m5) (by show S'.2.2.2.2.1 v j = _; rw [hS]; exact m4) h11 (by simp at hk; omega) (fun S2 o2 => ?_)
          exact ihi (j + 1) (k' + 1) S2 (by omega) (o2.2.2.2.1.trans hS) o2.1 (by simp at hk ⊢; omega) (fun S3 o3 => hQ S3 (st_w_app o2 o3))
        · have hw : w < 312 := by
            cases n with
            | zero => exact w3.elim
            | succ n => obtain ⟨c', q', ps', g1, -⟩ := w3; exact g1
          obtain ⟨e, rfl⟩ : ∃ e, d = e + 1 := ⟨d - 1, by omega⟩
          refine wr_part (k := 0) hi (e + 1) S' h h1 h3' hm3 hjl hw (by show S'.2.2.2.2.2.1 v j = _; rw [hS]; exact w2) (R9 := st_w k' ps[j] S') ?_ (fun S2 o2 => ?_)
          · exact ih w _ _ S' (st_cod_cong (congrArg (fun z => z.2) hS) w3) e (dp + 1) k' _ (by omega) (by omega) h11 (by omega) (fun S2 o2 => ⟨rfl, S2, rfl, o2⟩)
          · exact ihi (j + 1) (k' + ps[j].length) S2 (by omega) (o2.2.2.2.1.trans hS) o2.1 (by omega) (fun S3 o3 => hQ S3 (st_w_app o2 o3))
    refine loop ps.length 0 (k + 1) S1 (by omega) o1.2.2.2.1 o1.1 (by rw [List.drop_zero]; omega) (fun S' o' => hQ S' ?_)
    rw [List.drop_zero] at o'
    rw [h7]
    exact st_w_app o1 o'

set_option maxRecDepth 100000 in
set_option maxHeartbeats 4000000 in
theorem ch_write (hi : cs_inj ad) {g : sp_G} (d : Nat) (S : cs_S) (h : ax_H) {n v t : Nat} {L : List Nat} (hc : st_cod g S n v t L) (hv : v < 312) (hd : n ≤ d) (hn : n ≤ 9) (hl : L.length ≤ 32) {Q : ax_P} (hq : ∀ S', st_w 0 L (cs_setS S 11 0) S' → Q (.inl none) (cs_O ad S' h)) : AW G mX0_write (d + 2) 0 0 Q 0 [(0, .ref (ad (0, 15))), (1, .ref (ad (1, v)))] [] (cs_O ad S h) 0 0 := by
  refine ax_aload_n dX0_write_0 rfl ?_
  refine ax_iconst (v := 0) dX0_write_1 (by decide) ?_
  refine ax_put dX0_write_2 fpX0_15 (cs_get hi (cs_k0 (by decide))) rfl rfl (Nat.le_of_ble_eq_true rfl) ?_
  refine ax_eqh (cs_ps11 hi) ?_
  refine ax_aload_n dX0_write_5 rfl ?_
  refine ax_aload_n dX0_write_6 rfl ?_
  refine ax_iconst (v := 0) dX0_write_7 (by decide) ?_
  refine ax_callV (b := (ad (0, 15))) (av := [.ref (ad (1, v)), .int 0]) (rest := []) (mc' := 0) (ms' := 0) dX0_write_8 rfl lkX0_19 (cs_get hi (cs_k0 (by decide))) rfl (Nat.le_of_ble_eq_true rfl) (Nat.le_of_ble_eq_true rfl) (Nat.le_refl 0) (Nat.le_refl 0) (wr_val hi h n v t L (cs_setS S 11 0) (st_cod_cong (S := S) (S' := cs_setS S 11 0) rfl hc) _ 0 0 (fun r h1 => r = .inl none ∧ ∃ S', h1 = cs_O ad S' h ∧ st_w 0 L (cs_setS S 11 0) S') hd (by omega) rfl (by omega) (fun S' o' => ⟨rfl, S', rfl, o'⟩)) (fun E9 h9 q9 => by cases q9.1) (fun v9 h9 q9 => ?_)
  obtain ⟨e9, S1, rfl, o1⟩ := q9
  cases e9
  show AW G mX0_write (d + 2) 0 0 Q 11 [(0, .ref (ad (0, 15))), (1, .ref (ad (1, v)))] [] (cs_O ad S1 h) 0 0
  exact ax_vret (st := []) dX0_write_11 rfl (hq S1 o1)
end COD
