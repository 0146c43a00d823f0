/-! ===== the reference: where a code ends ===== -/
theorem nI_m1 {u : Nat} (h : u < 2 ^ 31) : ¬ nI u = -1 := fun z => by
  have := congrArg Int32.toInt z
  rw [nI_toInt h, show (-1 : Int32).toInt = -1 by decide] at this
  omega
/-- a row of ints holds a code -/
def rw_cd (L : List Nat) (N : Nat) (f : Nat → Int32) : Prop := L.length ≤ N ∧ N ≤ 100 ∧ ∀ i a, L[i]? = some a → f i = nI a
section REND
variable {G : ax_G} {A : rw_Ad}

set_option maxRecDepth 100000 in
set_option maxHeartbeats 4000000 in
theorem en_int (hA : rw_nd A) (d : Nat) (R : rw_S) (h : ax_H) {ca N : Nat} {f : Nat → Int32} (hca : rw_O A R h ca = some (.inl (0, N, .inl f))) {a0 c p k : Nat} (hc : c < 6) (hk : k < 3) (h9 : R.2.1 2 (3 * c + k) = nI 9) {Q : ax_P} (kk : AW G mX7_end (d + 1) 0 0 Q 15 [(0, .ref (A.1 0)), (1, .ref ca), (2, .int (nI a0)), (3, .int (nI c)), (4, .int (nI (p + 1))), (5, .int (nI (k + 1)))] [] (rw_O A R h) 0 0) : AW G mX7_end (d + 1) 0 0 Q 15 [(0, .ref (A.1 0)), (1, .ref ca), (2, .int (nI a0)), (3, .int (nI c)), (4, .int (nI p)), (5, .int (nI k))] [] (rw_O A R h) 0 0 := by
  refine ax_iload dX7_end_15 rfl ?_
  refine ax_iconst (v := 3) dX7_end_17 (by decide) ?_
  refine ax_icmp_ge (tgt := 74) dX7_end_18 (by decide) (fun z => absurd z (il_nle 3 k hk)) (fun _ => ?_)
  refine ax_aload_n dX7_end_21 rfl ?_
  refine ax_get (v := .ref (A.1 2)) dX7_end_22 fkX7_17 (rw_g0 hA) rfl ?_
  refine ax_iconst (v := 3) dX7_end_25 (by decide) ?_
  refine ax_iload_n dX7_end_26 rfl ?_
  refine ax_imul dX7_end_27 ?_
  refine ax_top (y := (nI (3 * c))) ((pk_mul 3 c)) ?_
  refine ax_iload dX7_end_28 rfl ?_
  refine ax_iadd dX7_end_30 ?_
  refine ax_top (y := (nI (3 * c + k))) (nI_add _ _) ?_
  refine ax_ialdv (x := (nI 9)) dX7_end_31 (rw_g2 hA) (nI_in (by omega) (by decide)) (by rw [nI_clamp (by omega)]; exact h9) ?_
  refine ax_iconst (v := (-1)) dX7_end_32 (by decide) ?_
  refine ax_icmp_eq (tgt := 74) dX7_end_33 (by decide) (fun z => absurd z (by decide)) (fun _ => ?_)
  refine ax_aload_n dX7_end_36 rfl ?_
  refine ax_get (v := .ref (A.1 2)) dX7_end_37 fkX7_17 (rw_g0 hA) rfl ?_
  refine ax_iconst (v := 3) dX7_end_40 (by decide) ?_
  refine ax_iload_n dX7_end_41 rfl ?_
  refine ax_imul dX7_end_42 ?_
  refine ax_top (y := (nI (3 * c))) ((pk_mul 3 c)) ?_
  refine ax_iload dX7_end_43 rfl ?_
  refine ax_iadd dX7_end_45 ?_
  refine ax_top (y := (nI (3 * c + k))) (nI_add _ _) ?_
  refine ax_ialdv (x := (nI 9)) dX7_end_46 (rw_g2 hA) (nI_in (by omega) (by decide)) (by rw [nI_clamp (by omega)]; exact h9) ?_
  refine ax_bipush (v := 9) dX7_end_47 (by decide) ?_
  refine ax_icmp_ne (tgt := 59) dX7_end_49 (by decide) (fun z => absurd (by decide) z) (fun _ => ?_)
  refine ax_iload dX7_end_52 rfl ?_
  refine ax_iconst (v := 1) dX7_end_54 (by decide) ?_
  refine ax_iadd dX7_end_55 ?_
  refine ax_top (y := (nI (p + 1))) (nI_1 p) ?_
  refine ax_goto (tgt := 66) dX7_end_56 (by decide) ?_
  refine ax_istore dX7_end_66 (by decide) ?_
  refine ax_sub (lv' := [(0, .ref (A.1 0)), (1, .ref ca), (2, .int (nI a0)), (3, .int (nI c)), (4, .int (nI (p + 1))), (5, .int (nI k))]) (fun _ z => z) ?_
  refine ax_iinc (v := (nI (k + 1))) dX7_end_68 rfl (nI_1 k) (by decide) ?_
  refine ax_sub (lv' := [(0, .ref (A.1 0)), (1, .ref ca), (2, .int (nI a0)), (3, .int (nI c)), (4, .int (nI (p + 1))), (5, .int (nI (k + 1)))]) (fun _ z => z) ?_
  refine ax_goto (tgt := 15) dX7_end_71 (by decide) ?_
  exact kk
theorem en_part (hA : rw_nd A) (d : Nat) (R : rw_S) (h : ax_H) {ca N : Nat} {f : Nat → Int32} (hca : rw_O A R h ca = some (.inl (0, N, .inl f))) {a0 c p k u p2 : Nat} (hc : c < 6) (hk : k < 3) (hu : u < 4) (h9 : R.2.1 2 (3 * c + k) = nI u) (IH : AW G mX7_end d 0 0 (fun r h1 => r = .inl (some (.int (nI p2))) ∧ h1 = rw_O A R h) 0 [(0, .ref (A.1 0)), (1, .ref ca), (2, .int (nI p))] [] (rw_O A R h) 0 0) {Q : ax_P} (kk : AW G mX7_end (d + 1) 0 0 Q 15 [(0, .ref (A.1 0)), (1, .ref ca), (2, .int (nI a0)), (3, .int (nI c)), (4, .int (nI p2)), (5, .int (nI (k + 1)))] [] (rw_O A R h) 0 0) : AW G mX7_end (d + 1) 0 0 Q 15 [(0, .ref (A.1 0)), (1, .ref ca), (2, .int (nI a0)), (3, .int (nI c)), (4, .int (nI p)), (5, .int (nI k))] [] (rw_O A R h) 0 0 := by
  refine ax_iload dX7_end_15 rfl ?_
  refine ax_iconst (v := 3) dX7_end_17 (by decide) ?_
  refine ax_icmp_ge (tgt := 74) dX7_end_18 (by decide) (fun z => absurd z (il_nle 3 k hk)) (fun _ => ?_)
  refine ax_aload_n dX7_end_21 rfl ?_
  refine ax_get (v := .ref (A.1 2)) dX7_end_22 fkX7_17 (rw_g0 hA) rfl ?_
  refine ax_iconst (v := 3) dX7_end_25 (by decide) ?_
  refine ax_iload_n dX7_end_26 rfl ?_
  refine ax_imul dX7_end_27 ?_
  refine ax_top (y := (nI (3 * c))) ((pk_mul 3 c)) ?_
  refine ax_iload dX7_end_28 rfl ?_
  refine ax_iadd dX7_end_30 ?_
  refine ax_top (y := (nI (3 * c + k))) (nI_add _ _) ?_
  refine ax_ialdv (x := (nI u)) dX7_end_31 (rw_g2 hA) (nI_in (by omega) (by decide)) (by rw [nI_clamp (by omega)]; exact h9) ?_
  refine ax_iconst (v := (-1)) dX7_end_32 (by decide) ?_
  refine ax_icmp_eq (tgt := 74) dX7_end_33 (by decide) (fun z => absurd z (nI_m1 (by omega))) (fun _ => ?_)
  refine ax_aload_n dX7_end_36 rfl ?_
  refine ax_get (v := .ref (A.1 2)) dX7_end_37 fkX7_17 (rw_g0 hA) rfl ?_
  refine ax_iconst (v := 3) dX7_end_40 (by decide) ?_
  refine ax_iload_n dX7_end_41 rfl ?_
  refine ax_imul dX7_end_42 ?_
  refine ax_top (y := (nI (3 * c))) ((pk_mul 3 c)) ?_
  refine ax_iload dX7_end_43 rfl ?_
  refine ax_iadd dX7_end_45 ?_
  refine ax_top (y := (nI (3 * c + k))) (nI_add _ _) ?_
  refine ax_ialdv (x := (nI u)) dX7_end_46 (rw_g2 hA) (nI_in (by omega) (by decide)) (by rw [nI_clamp (by omega)]; exact h9) ?_
  refine ax_bipush (v := 9) dX7_end_47 (by decide) ?_
  refine ax_icmp_ne (tgt := 59) dX7_end_49 (by decide) (fun _ => ?_) (fun z => absurd z (il_ne u 9 (by omega)))
  refine ax_aload_n dX7_end_59 rfl ?_
  refine ax_aload_n dX7_end_60 rfl ?_
  refine ax_iload dX7_end_61 rfl ?_
  refine ax_callV (b := (A.1 0)) (av := [.ref ca, .int (nI p)]) (rest := []) (mc' := 0) (ms' := 0) dX7_end_63 rfl lkX7_106 (rw_g0 hA) rfl (Nat.le_of_ble_eq_true rfl) (Nat.le_of_ble_eq_true rfl) (by decide) (by decide) (IH) (fun E9 h9 q9 => by cases q9.1) (fun v9 h9 q9 => ?_)
  obtain ⟨e9, rfl⟩ := q9
  cases e9
  show AW G mX7_end (d + 1) 0 0 _ 66 [(0, .ref (A.1 0)), (1, .ref ca), (2, .int (nI a0)), (3, .int (nI c)), (4, .int (nI p)), (5, .int (nI k))] [.int (nI p2)] (rw_O A R h) 0 0
  refine ax_istore dX7_end_66 (by decide) ?_
  refine ax_sub (lv' := [(0, .ref (A.1 0)), (1, .ref ca), (2, .int (nI a0)), (3, .int (nI c)), (4, .int (nI p2)), (5, .int (nI k))]) (fun _ z => z) ?_
  refine ax_iinc (v := (nI (k + 1))) dX7_end_68 rfl (nI_1 k) (by decide) ?_
  refine ax_sub (lv' := [(0, .ref (A.1 0)), (1, .ref ca), (2, .int (nI a0)), (3, .int (nI c)), (4, .int (nI p2)), (5, .int (nI (k + 1)))]) (fun _ z => z) ?_
  refine ax_goto (tgt := 15) dX7_end_71 (by decide) ?_
  exact kk
theorem en_e3 (hA : rw_nd A) (d : Nat) (R : rw_S) (h : ax_H) {ca N : Nat} {f : Nat → Int32} (hca : rw_O A R h ca = some (.inl (0, N, .inl f))) {a0 c p : Nat} {Q : ax_P} (hq : Q (.inl (some (.int (nI p)))) (rw_O A R h)) : AW G mX7_end (d + 1) 0 0 Q 15 [(0, .ref (A.1 0)), (1, .ref ca), (2, .int (nI a0)), (3, .int (nI c)), (4, .int (nI p)), (5, .int (nI 3))] [] (rw_O A R h) 0 0 := by
  refine ax_iload dX7_end_15 rfl ?_
  refine ax_iconst (v := 3) dX7_end_17 (by decide) ?_
  refine ax_icmp_ge (tgt := 74) dX7_end_18 (by decide) (fun _ => ?_) (fun z => absurd (by decide) z)
  refine ax_iload dX7_end_74 rfl ?_
  exact ax_iret (st := []) dX7_end_76 rfl rfl hq
theorem en_e10 (hA : rw_nd A) (d : Nat) (R : rw_S) (h : ax_H) {ca N : Nat} {f : Nat → Int32} (hca : rw_O A R h ca = some (.inl (0, N, .inl f))) {a0 c p k : Nat} (hc : c < 6) (hk : k < 3) (h9 : R.2.1 2 (3 * c + k) = -1) {Q : ax_P} (hq : Q (.inl (some (.int (nI p)))) (rw_O A R h)) : AW G mX7_end (d + 1) 0 0 Q 15 [(0, .ref (A.1 0)), (1, .ref ca), (2, .int (nI a0)), (3, .int (nI c)), (4, .int (nI p)), (5, .int (nI k))] [] (rw_O A R h) 0 0 := by
  refine ax_iload dX7_end_15 rfl ?_
  refine ax_iconst (v := 3) dX7_end_17 (by decide) ?_
  refine ax_icmp_ge (tgt := 74) dX7_end_18 (by decide) (fun z => absurd z (il_nle 3 k hk)) (fun _ => ?_)
  refine ax_aload_n dX7_end_21 rfl ?_
  refine ax_get (v := .ref (A.1 2)) dX7_end_22 fkX7_17 (rw_g0 hA) rfl ?_
  refine ax_iconst (v := 3) dX7_end_25 (by decide) ?_
  refine ax_iload_n dX7_end_26 rfl ?_
  refine ax_imul dX7_end_27 ?_
  refine ax_top (y := (nI (3 * c))) ((pk_mul 3 c)) ?_
  refine ax_iload dX7_end_28 rfl ?_
  refine ax_iadd dX7_end_30 ?_
  refine ax_top (y := (nI (3 * c + k))) (nI_add _ _) ?_
  refine ax_ialdv (x := (-1)) dX7_end_31 (rw_g2 hA) (nI_in (by omega) (by decide)) (by rw [nI_clamp (by omega)]; exact h9) ?_
  refine ax_iconst (v := (-1)) dX7_end_32 (by decide) ?_
  refine ax_icmp_eq (tgt := 74) dX7_end_33 (by decide) (fun _ => ?_) (fun z => absurd rfl z)
  refine ax_iload dX7_end_74 rfl ?_
  exact ax_iret (st := []) dX7_end_76 rfl rfl hq
theorem en_beg (hA : rw_nd A) (d : Nat) (R : rw_S) (h : ax_H) {ca N : Nat} {f : Nat → Int32} (hca : rw_O A R h ca = some (.inl (0, N, .inl f))) {a0 c : Nat} (ha0 : a0 < N) (hN : N ≤ 100) (hc : c < 6) (hf : f a0 = nI (100 + c)) {Q : ax_P} (kk : AW G mX7_end (d + 1) 0 0 Q 15 [(0, .ref (A.1 0)), (1, .ref ca), (2, .int (nI a0)), (3, .int (nI c)), (4, .int (nI (a0 + 1))), (5, .int (nI 0))] [] (rw_O A R h) 0 0) : AW G mX7_end (d + 1) 0 0 Q 0 [(0, .ref (A.1 0)), (1, .ref ca), (2, .int (nI a0))] [] (rw_O A R h) 0 0 := by
  refine ax_aload_n dX7_end_0 rfl ?_
  refine ax_iload_n dX7_end_1 rfl ?_
  refine ax_ialdv (x := (nI (100 + c))) dX7_end_2 hca (nI_in ha0 (by omega)) (by rw [nI_clamp (by omega)]; exact hf) ?_
  refine ax_bipush (v := 100) dX7_end_3 (by decide) ?_
  refine ax_isub dX7_end_5 ?_
  refine ax_top (y := (nI c)) (by rw [show (100 : Int32) = nI 100 by decide, pk_sub (by omega), Nat.add_sub_cancel_left]) ?_
  refine ax_istore_n dX7_end_6 (by decide) ?_
  refine ax_sub (lv' := [(0, .ref (A.1 0)), (1, .ref ca), (2, .int (nI a0)), (3, .int (nI c))]) (fun _ z => z) ?_
  refine ax_iload_n dX7_end_7 rfl ?_
  refine ax_iconst (v := 1) dX7_end_8 (by decide) ?_
  refine ax_iadd dX7_end_9 ?_
  refine ax_top (y := (nI (a0 + 1))) (nI_1 a0) ?_
  refine ax_istore dX7_end_10 (by decide) ?_
  refine ax_sub (lv' := [(0, .ref (A.1 0)), (1, .ref ca), (2, .int (nI a0)), (3, .int (nI c)), (4, .int (nI (a0 + 1)))]) (fun _ z => z) ?_
  refine ax_iconst (v := 0) dX7_end_12 (by decide) ?_
  refine ax_istore dX7_end_13 (by decide) ?_
  refine ax_sub (lv' := [(0, .ref (A.1 0)), (1, .ref ca), (2, .int (nI a0)), (3, .int (nI c)), (4, .int (nI (a0 + 1))), (5, .int 0)]) (fun _ z => z) ?_
  exact kk
theorem sp_pI_9 {p : Nat} (h : p ≠ 10) : sp_pI p = nI p := if_neg h
theorem r_end (hA : rw_nd A) {g : sp_G} (hw : sp_wg g) (R : rw_S) (hg : rw_gr R g) (h : ax_H) {ca N : Nat} {f : Nat → Int32} {L : List Nat} (hcd : rw_cd L N f) (hca : rw_O A R h ca = some (.inl (0, N, .inl f))) : ∀ (n t a0 : Nat) (P rest : List Nat), sp_wf g n t P → L.drop a0 = P ++ rest → ∀ d, n ≤ d → AW G mX7_end d 0 0 (fun r h1 => r = .inl (some (.int (nI (a0 + P.length)))) ∧ h1 = rw_O A R h) 0 [(0, .ref (A.1 0)), (1, .ref ca), (2, .int (nI a0))] [] (rw_O A R h) 0 0 := by
  intro n
  induction n with
  | zero => intro t a0 P rest z; exact z.elim
  | succ n ih =>
    rintro t a0 P rest ⟨c, q, ps, h1, h2, h3, h4, h5⟩ hdr d hd
    obtain ⟨d, rfl⟩ : ∃ k, d = k + 1 := ⟨d - 1, by omega⟩
    have hc6 : c < 6 := Nat.lt_of_lt_of_le (List.getElem?_eq_some_iff.mp h1).1 hw.2.2.2.1
    have ha3 := sp_ar_le q
    obtain ⟨l1, l2, l3⟩ := hcd
    have hdr2 := hdr
    rw [h4, List.cons_append] at hdr2
    obtain ⟨b1, b2, b3, -⟩ := sp_drop_cons hdr2
    refine en_beg hA d R h hca (by omega) l2 hc6 (l3 _ _ b2) ?_
    have loop : ∀ (i k : Nat), k + i = ps.length → AW G mX7_end (d + 1) 0 0 (fun r h1 => r = .inl (some (.int (nI (a0 + P.length)))) ∧ h1 = rw_O A R h) 15 [(0, .ref (A.1 0)), (1, .ref ca), (2, .int (nI a0)), (3, .int (nI c)), (4, .int (nI (a0 + 1 + (ps.take k).flatten.length))), (5, .int (nI k))] [] (rw_O A R h) 0 0 := by
      intro i
      induction i with
      | zero =>
        intro k hk
        have hk : k = ps.length := by omega
        subst hk
        rw [List.take_length]
        have hpl : a0 + 1 + ps.flatten.length = a0 + P.length := by rw [h4, List.length_cons]; omega
        rw [hpl]
        by_cases hk3 : ps.length < 3
        · refine en_e10 hA d R h hca hc6 hk3 ?_ ⟨rfl, rfl⟩
          rw [(hg.2.2.2.2 c q h1).2.1 _ hk3, sp_ar_10 h3.symm hk3]; decide
        · have hk3 : ps.length = 3 := by omega
          rw [hk3]
          exact en_e3 hA d R h hca ⟨rfl, rfl⟩
      | succ i ihi =>
        intro k hk
        have hkl : k < ps.length := by omega
        have hki := ihi (k + 1) (by omega)
        rw [List.take_succ_eq_append_getElem hkl, List.flatten_append, List.length_append] at hki
        have hpar := (hg.2.2.2.2 c q h1).2.1 k (by omega)
        rcases h5 k ps[k] (List.getElem?_eq_getElem hkl) with ⟨m, m1, m2, m3⟩ | ⟨w1, w2⟩
        · refine en_int hA d R h hca hc6 (by omega) (by rw [hpar, m2]; decide) ?_
          rw [m3] at hki
          exact hki
        · have hps : ps.flatten = (ps.take k).flatten ++ (ps[k] ++ (ps.drop (k + 1)).flatten) := by
            rw [← List.flatten_cons, ← List.drop_eq_getElem_cons hkl, ← List.flatten_append, List.take_append_drop]
          have hdk : L.drop (a0 + 1 + (ps.take k).flatten.length) = ps[k] ++ ((ps.drop (k + 1)).flatten ++ rest) := by
            rw [Nat.add_assoc, ← List.drop_drop, ← List.drop_drop, hdr2, List.drop_one, List.tail_cons, hps, List.append_assoc, List.drop_left', List.append_assoc]
            rfl
          refine en_part hA d R h hca hc6 (by omega) w1 (by rw [hpar]; exact sp_pI_9 (by omega)) (ih _ _ _ _ w2 hdk d (by omega)) ?_
          have he : a0 + 1 + ((ps.take k).flatten.length + [ps[k]].flatten.length) = a0 + 1 + (ps.take k).flatten.length + ps[k].length := by
            rw [List.flatten_singleton]; omega
          rw [he] at hki
          exact hki
    have := loop ps.length 0 (by omega)
    rw [List.take_zero] at this
    exact this
end REND
