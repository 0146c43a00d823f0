/-! ===== the reference: add ===== -/
def rr_L (Rs : List Nat) (R : rw_S) : Prop := R.1 23 = nI Rs.length ∧ Rs.length ≤ 1199 ∧ ∀ i m, Rs[i]? = some m → R.2.1 11 i = nI m ∧ m < 300
def rr_fr (R R' : rw_S) : Prop := (∀ i, i ≠ 23 → R'.1 i = R.1 i) ∧ (∀ i, i ≠ 11 → R'.2.1 i = R.2.1 i) ∧ R'.2.2 = R.2.2
theorem rr_fr_rfl (R : rw_S) : rr_fr R R := ⟨fun _ _ => rfl, fun _ _ => rfl, rfl⟩
theorem rr_fr_tr {R1 R2 R3 : rw_S} (a : rr_fr R1 R2) (b : rr_fr R2 R3) : rr_fr R1 R3 := ⟨fun i x => (b.1 i x).trans (a.1 i x), fun i x => (b.2.1 i x).trans (a.2.1 i x), b.2.2.trans a.2.2⟩
theorem rr_fx {R R' : rw_S} (a : rr_fr R R') : rw_fx R R' := ⟨fun i _ _ _ x => a.1 i x, fun i _ x => a.2.1 i x, a.2.2⟩
section RP7
variable {G : ax_G} {A : rw_Ad}

set_option maxRecDepth 100000 in
set_option maxHeartbeats 4000000 in
theorem ad_0 (hA : rw_nd A) (d : Nat) (R : rw_S) (h : ax_H) {Rs : List Nat} (hr : rr_L Rs R) {x : Int32} {k : Nat} (hk : k < Rs.length) {Q : ax_P} (kk : AW G mX7_add d 0 0 Q 13 [(0, .ref (A.1 0)), (1, .int x), (2, .int 0), (3, .int (nI (k + 1)))] [] (rw_O A R h) 0 0) : AW G mX7_add d 0 0 Q 13 [(0, .ref (A.1 0)), (1, .int x), (2, .int 0), (3, .int (nI k))] [] (rw_O A R h) 0 0 := by
  have hl := hr.2.1
  refine ax_iload_n dX7_add_13 rfl ?_
  refine ax_aload_n dX7_add_14 rfl ?_
  refine ax_get (v := .int (nI Rs.length)) dX7_add_15 fkX7_175 (rw_g0 hA) (congrArg (fun z => some (Value.int z)) (hr.1)) ?_
  refine ax_icmp_ge (tgt := 47) dX7_add_18 (by decide) (fun z => absurd z (il_nle Rs.length k hk)) (fun _ => ?_)
  refine ax_iload_n dX7_add_21 rfl ?_
  refine ax_if_eq (tgt := 39) dX7_add_22 (by decide) (fun _ => ?_) (fun z => absurd rfl z)
  refine ax_iconst (v := 0) dX7_add_39 (by decide) ?_
  refine ax_istore_n dX7_add_40 (by decide) ?_
  refine ax_sub (lv' := [(0, .ref (A.1 0)), (1, .int x), (2, .int 0), (3, .int (nI k))]) (fun _ z => z) ?_
  refine ax_iinc (v := (nI (k + 1))) dX7_add_41 rfl (nI_1 k) (by decide) ?_
  refine ax_sub (lv' := [(0, .ref (A.1 0)), (1, .int x), (2, .int 0), (3, .int (nI (k + 1)))]) (fun _ z => z) ?_
  refine ax_goto (tgt := 13) dX7_add_44 (by decide) ?_
  exact kk
theorem ad_n (hA : rw_nd A) (d : Nat) (R : rw_S) (h : ax_H) {Rs : List Nat} (hr : rr_L Rs R) {x m k : Nat} (hk : k < Rs.length) (hm : R.2.1 11 k = nI m) (hne : ¬ nI m = nI x) {Q : ax_P} (kk : AW G mX7_add d 0 0 Q 13 [(0, .ref (A.1 0)), (1, .int (nI x)), (2, .int 1), (3, .int (nI (k + 1)))] [] (rw_O A R h) 0 0) : AW G mX7_add d 0 0 Q 13 [(0, .ref (A.1 0)), (1, .int (nI x)), (2, .int 1), (3, .int (nI k))] [] (rw_O A R h) 0 0 := by
  have hl := hr.2.1
  refine ax_iload_n dX7_add_13 rfl ?_
  refine ax_aload_n dX7_add_14 rfl ?_
  refine ax_get (v := .int (nI Rs.length)) dX7_add_15 fkX7_175 (rw_g0 hA) (congrArg (fun z => some (Value.int z)) (hr.1)) ?_
  refine ax_icmp_ge (tgt := 47) dX7_add_18 (by decide) (fun z => absurd z (il_nle Rs.length k hk)) (fun _ => ?_)
  refine ax_iload_n dX7_add_21 rfl ?_
  refine ax_if_eq (tgt := 39) dX7_add_22 (by decide) (fun z => absurd z (by decide)) (fun _ => ?_)
  refine ax_aload_n dX7_add_25 rfl ?_
  refine ax_get (v := .ref (A.1 11)) dX7_add_26 fkX7_49 (rw_g0 hA) rfl ?_
  refine ax_iload_n dX7_add_29 rfl ?_
  refine ax_ialdv (x := (nI m)) dX7_add_30 (rw_g11 hA) (nI_in (by omega) (by decide)) (by rw [nI_clamp (by omega)]; exact hm) ?_
  refine ax_iload_n dX7_add_31 rfl ?_
  refine ax_icmp_eq (tgt := 39) dX7_add_32 (by decide) (fun z => absurd z hne) (fun _ => ?_)
  refine ax_iconst (v := 1) dX7_add_35 (by decide) ?_
  refine ax_goto (tgt := 40) dX7_add_36 (by decide) ?_
  refine ax_istore_n dX7_add_40 (by decide) ?_
  refine ax_sub (lv' := [(0, .ref (A.1 0)), (1, .int (nI x)), (2, .int 1), (3, .int (nI k))]) (fun _ z => z) ?_
  refine ax_iinc (v := (nI (k + 1))) dX7_add_41 rfl (nI_1 k) (by decide) ?_
  refine ax_sub (lv' := [(0, .ref (A.1 0)), (1, .int (nI x)), (2, .int 1), (3, .int (nI (k + 1)))]) (fun _ z => z) ?_
  refine ax_goto (tgt := 13) dX7_add_44 (by decide) ?_
  exact kk
theorem ad_y (hA : rw_nd A) (d : Nat) (R : rw_S) (h : ax_H) {Rs : List Nat} (hr : rr_L Rs R) {x k : Nat} (hk : k < Rs.length) (hm : R.2.1 11 k = nI x) {Q : ax_P} (kk : AW G mX7_add d 0 0 Q 13 [(0, .ref (A.1 0)), (1, .int (nI x)), (2, .int 0), (3, .int (nI (k + 1)))] [] (rw_O A R h) 0 0) : AW G mX7_add d 0 0 Q 13 [(0, .ref (A.1 0)), (1, .int (nI x)), (2, .int 1), (3, .int (nI k))] [] (rw_O A R h) 0 0 := by
  have hl := hr.2.1
  refine ax_iload_n dX7_add_13 rfl ?_
  refine ax_aload_n dX7_add_14 rfl ?_
  refine ax_get (v := .int (nI Rs.length)) dX7_add_15 fkX7_175 (rw_g0 hA) (congrArg (fun z => some (Value.int z)) (hr.1)) ?_
  refine ax_icmp_ge (tgt := 47) dX7_add_18 (by decide) (fun z => absurd z (il_nle Rs.length k hk)) (fun _ => ?_)
  refine ax_iload_n dX7_add_21 rfl ?_
  refine ax_if_eq (tgt := 39) dX7_add_22 (by decide) (fun z => absurd z (by decide)) (fun _ => ?_)
  refine ax_aload_n dX7_add_25 rfl ?_
  refine ax_get (v := .ref (A.1 11)) dX7_add_26 fkX7_49 (rw_g0 hA) rfl ?_
  refine ax_iload_n dX7_add_29 rfl ?_
  refine ax_ialdv (x := (nI x)) dX7_add_30 (rw_g11 hA) (nI_in (by omega) (by decide)) (by rw [nI_clamp (by omega)]; exact hm) ?_
  refine ax_iload_n dX7_add_31 rfl ?_
  refine ax_icmp_eq (tgt := 39) dX7_add_32 (by decide) (fun _ => ?_) (fun z => absurd rfl z)
  refine ax_iconst (v := 0) dX7_add_39 (by decide) ?_
  refine ax_istore_n dX7_add_40 (by decide) ?_
  refine ax_sub (lv' := [(0, .ref (A.1 0)), (1, .int (nI x)), (2, .int 0), (3, .int (nI k))]) (fun _ z => z) ?_
  refine ax_iinc (v := (nI (k + 1))) dX7_add_41 rfl (nI_1 k) (by decide) ?_
  refine ax_sub (lv' := [(0, .ref (A.1 0)), (1, .int (nI x)), (2, .int 0), (3, .int (nI (k + 1)))]) (fun _ z => z) ?_
  refine ax_goto (tgt := 13) dX7_add_44 (by decide) ?_
  exact kk
theorem ad_e0 (hA : rw_nd A) (d : Nat) (R : rw_S) (h : ax_H) {Rs : List Nat} (hr : rr_L Rs R) {x : Int32} {Q : ax_P} (hq : Q (.inl none) (rw_O A R h)) : AW G mX7_add d 0 0 Q 13 [(0, .ref (A.1 0)), (1, .int x), (2, .int 0), (3, .int (nI Rs.length))] [] (rw_O A R h) 0 0 := by
  have hl := hr.2.1
  refine ax_iload_n dX7_add_13 rfl ?_
  refine ax_aload_n dX7_add_14 rfl ?_
  refine ax_get (v := .int (nI Rs.length)) dX7_add_15 fkX7_175 (rw_g0 hA) (congrArg (fun z => some (Value.int z)) (hr.1)) ?_
  refine ax_icmp_ge (tgt := 47) dX7_add_18 (by decide) (fun _ => ?_) (fun z => absurd (il_le Rs.length Rs.length (Nat.le_refl _)) z)
  refine ax_iload_n dX7_add_47 rfl ?_
  refine ax_if_ne (tgt := 52) dX7_add_48 (by decide) (fun z => absurd rfl z) (fun _ => ?_)
  exact ax_vret (st := []) dX7_add_51 rfl hq
theorem ad_e1 (hA : rw_nd A) (d : Nat) (R : rw_S) (h : ax_H) {Rs : List Nat} (hr : rr_L Rs R) {x : Nat} (hl2 : Rs.length < 1199) (hx : x < 300) {Q : ax_P} (hq : ∀ R', rr_fr R R' → rr_L (Rs ++ [x]) R' → Q (.inl none) (rw_O A R' h)) : AW G mX7_add d 0 0 Q 13 [(0, .ref (A.1 0)), (1, .int (nI x)), (2, .int 1), (3, .int (nI Rs.length))] [] (rw_O A R h) 0 0 := by
  refine ax_iload_n dX7_add_13 rfl ?_
  refine ax_aload_n dX7_add_14 rfl ?_
  refine ax_get (v := .int (nI Rs.length)) dX7_add_15 fkX7_175 (rw_g0 hA) (congrArg (fun z => some (Value.int z)) (hr.1)) ?_
  refine ax_icmp_ge (tgt := 47) dX7_add_18 (by decide) (fun _ => ?_) (fun z => absurd (il_le Rs.length Rs.length (Nat.le_refl _)) z)
  refine ax_iload_n dX7_add_47 rfl ?_
  refine ax_if_ne (tgt := 52) dX7_add_48 (by decide) (fun _ => ?_) (fun z => absurd z (by decide))
  refine ax_aload_n dX7_add_52 rfl ?_
  refine ax_get (v := .ref (A.1 11)) dX7_add_53 fkX7_49 (rw_g0 hA) rfl ?_
  refine ax_aload_n dX7_add_56 rfl ?_
  refine ax_get (v := .int (nI Rs.length)) dX7_add_57 fkX7_175 (rw_g0 hA) (congrArg (fun z => some (Value.int z)) (hr.1)) ?_
  refine ax_iload_n dX7_add_60 rfl ?_
  refine ax_iast dX7_add_61 (rw_g11 hA) (nI_in (by omega) (by decide)) ?_
  refine ax_eqh (rw_pa11 hA) ?_
  refine ax_aload_n dX7_add_62 rfl ?_
  refine ax_dup dX7_add_63 rfl ?_
  refine ax_get (v := .int (nI Rs.length)) dX7_add_64 fkX7_175 (rw_g0 hA) (congrArg (fun z => some (Value.int z)) (hr.1)) ?_
  refine ax_iconst (v := 1) dX7_add_67 (by decide) ?_
  refine ax_iadd dX7_add_68 ?_
  refine ax_top (y := (nI (Rs.length + 1))) (nI_1 _) ?_
  refine ax_put dX7_add_69 fpX7_175 (rw_g0 hA) rfl rfl (Nat.le_of_ble_eq_true rfl) ?_
  refine ax_eqh (rw_ps23 hA) ?_
  refine ax_vret (st := []) dX7_add_72 rfl (hq _ ⟨fun i hi => pk_un hi, fun i hi => va_up_ne _ _ hi, rfl⟩ ⟨?_, ?_, fun i m hi => ?_⟩)
  · rw [List.length_append]; rfl
  · rw [List.length_append]; show Rs.length + 1 ≤ 1199; omega
  · show upd (R.2.1 11) (nI Rs.length).toNatClampNeg (nI x) i = nI m ∧ m < 300
    rw [nI_clamp (by omega)]
    by_cases hil : i < Rs.length
    · rw [List.getElem?_append_left hil] at hi
      rw [pk_un (by omega)]; exact hr.2.2 i m hi
    · have hi2 := (List.getElem?_eq_some_iff.mp hi).1
      rw [List.length_append] at hi2
      have hi2 : i < Rs.length + 1 := hi2
      have hie : i = Rs.length := by omega
      subst hie
      rw [List.getElem?_append_right (Nat.le_refl _), Nat.sub_self] at hi
      have hi : x = m := by simpa using hi
      rw [← hi, pk_us]; exact ⟨rfl, hx⟩
theorem r_addN (hA : rw_nd A) (d : Nat) (R : rw_S) (h : ax_H) {Rs : List Nat} (hr : rr_L Rs R) {Q : ax_P} (hq : Q (.inl none) (rw_O A R h)) : AW G mX7_add d 0 0 Q 0 [(0, .ref (A.1 0)), (1, .int (-1))] [] (rw_O A R h) 0 0 := by
  have loop : ∀ (i k : Nat), k + i = Rs.length → AW G mX7_add d 0 0 Q 13 [(0, .ref (A.1 0)), (1, .int (-1)), (2, .int 0), (3, .int (nI k))] [] (rw_O A R h) 0 0 := by
    intro i
    induction i with
    | zero => intro k hk; rw [show k = Rs.length by omega]; exact ad_e0 hA d R h hr hq
    | succ i ih => intro k hk; exact ad_0 hA d R h hr (by omega) (ih (k + 1) (by omega))
  refine ax_iload_n dX7_add_0 rfl ?_
  refine ax_iconst (v := (-1)) dX7_add_1 (by decide) ?_
  refine ax_icmp_eq (tgt := 9) dX7_add_2 (by decide) (fun _ => ?_) (fun z => absurd rfl z)
  refine ax_iconst (v := 0) dX7_add_9 (by decide) ?_
  refine ax_istore_n dX7_add_10 (by decide) ?_
  refine ax_sub (lv' := [(0, .ref (A.1 0)), (1, .int (-1)), (2, .int 0)]) (fun _ z => z) ?_
  refine ax_iconst (v := 0) dX7_add_11 (by decide) ?_
  refine ax_istore_n dX7_add_12 (by decide) ?_
  refine ax_sub (lv' := [(0, .ref (A.1 0)), (1, .int (-1)), (2, .int 0), (3, .int 0)]) (fun _ z => z) ?_
  exact loop Rs.length 0 (by omega)
theorem r_add (hA : rw_nd A) (d : Nat) (R : rw_S) (h : ax_H) {Rs : List Nat} (hr : rr_L Rs R) {x : Nat} (hl2 : Rs.length < 1199) (hx : x < 300) {Q : ax_P} (hq0 : x ∈ Rs → Q (.inl none) (rw_O A R h)) (hq1 : x ∉ Rs → ∀ R', rr_fr R R' → rr_L (Rs ++ [x]) R' → Q (.inl none) (rw_O A R' h)) : AW G mX7_add d 0 0 Q 0 [(0, .ref (A.1 0)), (1, .int (nI x))] [] (rw_O A R h) 0 0 := by
  have loop0 : x ∈ Rs → ∀ (i k : Nat), k + i = Rs.length → AW G mX7_add d 0 0 Q 13 [(0, .ref (A.1 0)), (1, .int (nI x)), (2, .int 0), (3, .int (nI k))] [] (rw_O A R h) 0 0 := by
    intro hm i
    induction i with
    | zero => intro k hk; rw [show k = Rs.length by omega]; exact ad_e0 hA d R h hr (hq0 hm)
    | succ i ih => intro k hk; exact ad_0 hA d R h hr (by omega) (ih (k + 1) (by omega))
  have loop : ∀ (i k : Nat), k + i = Rs.length → (∀ m ∈ Rs.take k, m ≠ x) → AW G mX7_add d 0 0 Q 13 [(0, .ref (A.1 0)), (1, .int (nI x)), (2, .int 1), (3, .int (nI k))] [] (rw_O A R h) 0 0 := by
    intro i
    induction i with
    | zero =>
      intro k hk hall
      have hk : k = Rs.length := by omega
      subst hk
      rw [List.take_length] at hall
      exact ad_e1 hA d R h hr hl2 hx (hq1 (fun hm => hall x hm rfl))
    | succ i ih =>
      intro k hk hall
      have hkl : k < Rs.length := by omega
      obtain ⟨m1, m2⟩ := hr.2.2 k _ (List.getElem?_eq_getElem hkl)
      by_cases hmx : Rs[k] = x
      · exact ad_y hA d R h hr hkl (by rw [m1, hmx]) (loop0 (by rw [← hmx]; exact List.getElem_mem hkl) i (k + 1) (by omega))
      · refine ad_n hA d R h hr hkl m1 (fun z => hmx ((nI_eq (by omega) (by omega)).mp z)) (ih (k + 1) (by omega) (fun m hm => ?_))
        rw [List.take_succ_eq_append_getElem hkl] at hm
        rcases List.mem_append.mp hm with z | z
        · exact hall m z
        · rw [List.mem_singleton.mp z]; exact hmx
  refine ax_iload_n dX7_add_0 rfl ?_
  refine ax_iconst (v := (-1)) dX7_add_1 (by decide) ?_
  refine ax_icmp_eq (tgt := 9) dX7_add_2 (by decide) (fun z => absurd z (nI_m1 (by omega))) (fun _ => ?_)
  refine ax_iconst (v := 1) dX7_add_5 (by decide) ?_
  refine ax_goto (tgt := 10) dX7_add_6 (by decide) ?_
  refine ax_istore_n dX7_add_10 (by decide) ?_
  refine ax_sub (lv' := [(0, .ref (A.1 0)), (1, .int (nI x)), (2, .int 1)]) (fun _ z => z) ?_
  refine ax_iconst (v := 0) dX7_add_11 (by decide) ?_
  refine ax_istore_n dX7_add_12 (by decide) ?_
  refine ax_sub (lv' := [(0, .ref (A.1 0)), (1, .int (nI x)), (2, .int 1), (3, .int 0)]) (fun _ z => z) ?_
  exact loop Rs.length 0 (by omega) (fun m hm => absurd hm (by simp))
end RP7
