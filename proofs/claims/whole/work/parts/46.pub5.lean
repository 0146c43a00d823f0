/-! ===== addConstructor ===== -/
section PUB5
variable {G : ax_G} {ad : cs_K → Nat}
theorem isT_if2 {σ : sp_St} {x : Int32} (h2 : x = nI σ.1.2.2.1) (k : Int32) : (if k < 0 then 0 else (if x ≤ k then 0 else 1) : Int32) = (if po_isT σ k then 1 else 0) := by
  rw [h2]
  unfold po_isT
  by_cases h0 : k < 0
  · rw [if_pos h0]; simp [h0]
  · rw [if_neg h0]
    by_cases h1 : nI σ.1.2.2.1 ≤ k
    · rw [if_pos h1]
      have : ¬ k < nI σ.1.2.2.1 := i_le_not h1
      simp [this]
    · rw [if_neg h1]
      have : k < nI σ.1.2.2.1 := i_not_lt h1
      simp [h0, this]
theorem isP_if {σ : sp_St} (p : Int32) : (if p = ((-1) : Int32) then 1 else (if p = (9 : Int32) then 1 else (if ((if po_isT σ p then 1 else 0) : Int32) = 0 then 0 else 1)) : Int32) = (if po_isP σ p then 1 else 0) := by
  unfold po_isP
  by_cases h1 : p = -1
  · rw [if_pos h1, h1]; simp
  · rw [if_neg h1]
    by_cases h2 : p = 9
    · rw [if_pos h2, h2]; simp
    · rw [if_neg h2]
      cases po_isT σ p <;> simp [h1, h2]
theorem pars_key (m1 m2 m3 b1 b2 b3 t1 t2 t3 : Bool) : (if (if b1 = true then 1 else 0 : Int32) = 0 then 0 else (if (if b2 = true then 1 else 0 : Int32) = 0 then 0 else (if (if b3 = true then 1 else 0 : Int32) = 0 then 0 else (if ((if m1 = true then (if m2 = true then (if m2 = true then (if m3 = true then 0 else 1) else 0) else 1) else (if m2 = true then (if m3 = true then 0 else 1) else 0)) : Int32) = 0 then (if (if t1 = true then 1 else 0 : Int32) = 0 then 1 else (if (if t2 = true then 1 else 0 : Int32) = 0 then 1 else (if (if t3 = true then 1 else 0 : Int32) = 0 then 1 else 0))) else 0))) : Int32) = (if ((b1 && (b2 && b3)) && (!((m1 && !m2) || (m2 && !m3)) && !(t1 && (t2 && t3)))) = true then 1 else 0) := by
  cases b1 with
  | false => simp
  | true =>
    cases b2 with
    | false => simp
    | true =>
      cases b3 with
      | false => simp
      | true =>
        cases m1 <;> cases m2 <;> cases m3 <;> cases t1 <;> cases t2 <;> cases t3 <;> simp
theorem pars_if {σ : sp_St} {ty : Int32} (h2 : ty = nI σ.1.2.2.1) (p1 p2 p3 : Int32) : (if ((if p1 = ((-1) : Int32) then 1 else (if p1 = (9 : Int32) then 1 else (if ((if p1 < 0 then 0 else (if ty ≤ p1 then 0 else 1)) : Int32) = 0 then 0 else 1))) : Int32) = 0 then 0 else (if ((if p2 = ((-1) : Int32) then 1 else (if p2 = (9 : Int32) then 1 else (if ((if p2 < 0 then 0 else (if ty ≤ p2 then 0 else 1)) : Int32) = 0 then 0 else 1))) : Int32) = 0 then 0 else (if ((if p3 = ((-1) : Int32) then 1 else (if p3 = (9 : Int32) then 1 else (if ((if p3 < 0 then 0 else (if ty ≤ p3 then 0 else 1)) : Int32) = 0 then 0 else 1))) : Int32) = 0 then 0 else (if ((if p1 = ((-1) : Int32) then (if p2 = ((-1) : Int32) then (if p2 = ((-1) : Int32) then (if p3 = ((-1) : Int32) then 0 else 1) else 0) else 1) else (if p2 = ((-1) : Int32) then (if p3 = ((-1) : Int32) then 0 else 1) else 0)) : Int32) = 0 then (if ((if p1 < 0 then 0 else (if ty ≤ p1 then 0 else 1)) : Int32) = 0 then 1 else (if ((if p2 < 0 then 0 else (if ty ≤ p2 then 0 else 1)) : Int32) = 0 then 1 else (if ((if p3 < 0 then 0 else (if ty ≤ p3 then 0 else 1)) : Int32) = 0 then 1 else 0))) else 0))) : Int32) = (if po_pars σ p1 p2 p3 then 1 else 0) := by
  rw [isT_if2 h2, isT_if2 h2, isT_if2 h2, isP_if, isP_if, isP_if]
  unfold po_pars
  have := pars_key (decide (p1 = -1)) (decide (p2 = -1)) (decide (p3 = -1)) (po_isP σ p1) (po_isP σ p2) (po_isP σ p3) (po_isT σ p1) (po_isT σ p2) (po_isT σ p3)
  simp only [decide_eq_true_eq] at this
  exact this
theorem cg_pars (hi : cs_inj ad) (d : Nat) (S : cs_S) (h : ax_H) {σ : sp_St} (h2 : S.1 2 = nI σ.1.2.2.1) (a b c : Int32) : AW G mX1_allowsParameters (d + 2) 0 0 (fun r h1 => r = .inl (some (.int (if po_pars σ a b c then 1 else 0))) ∧ h1 = cs_O ad S h) 0 [(0, .ref (ad (0, 1))), (1, .int a), (2, .int b), (3, .int c)] [] (cs_O ad S h) 0 0 := by
  have hks : ∀ k ∈ ([(0, 1)] : List cs_K), k ∈ cs_keys := fun k hk => by simp at hk; subst hk; exact cs_k0 (by decide)
  refine ax_eqh (cs_in hi (ks := [(0, 1)]) hks).symm ?_
  refine ax_mono (ctX1_allowsParameters d (cs_O ad S h) (ad (0, 1)) (S.1 0) (S.1 1) (S.1 2) (S.1 3) (ad (0, 2)) (ad (0, 3)) (ad (0, 4)) (ad (0, 5)) a b c (by simp)) ?_
  rintro r h1 ⟨e, rfl⟩
  refine ⟨e.trans ?_, cs_in hi hks⟩
  rw [pars_if h2]
theorem cg_hasT2 (hi : cs_inj ad) (d : Nat) (S : cs_S) (h : ax_H) {σ : sp_St} (h2 : S.1 2 = nI σ.1.2.2.1) {k : Int32} {u : Nat} (hu : (if po_isT σ k then 1 else 0 : Int32) = nI u) : AW G mX1_hasType d 0 0 (fun r h1 => r = .inl (some (.int (nI u))) ∧ h1 = cs_O ad S h) 0 [(0, .ref (ad (0, 1))), (1, .int k)] [] (cs_O ad S h) 0 0 := by
  refine ax_mono (cg_hasT hi d S h k) ?_
  rintro r h1 ⟨e, e2⟩
  exact ⟨e.trans (by rw [isT_if2 h2, hu]), e2⟩
theorem pn_ok {σ : sp_St} (h4 : σ.1.2.2.1 ≤ 4) {p : Int32} (hp : po_isP σ p = true) : sp_pI (po_pn p) = p ∧ (if po_isT σ p then 1 else 0 : Int32) = nI (sp_isT (po_pn p)) ∧ (po_pn p < σ.1.2.2.1 ∨ po_pn p = 9 ∨ po_pn p = 10) ∧ (p = -1 ↔ po_pn p = 10) ∧ (po_isT σ p = true ↔ po_pn p < σ.1.2.2.1) := by
  unfold po_isP at hp
  by_cases h1 : p = -1
  · subst h1
    refine ⟨by decide, ?_, Or.inr (Or.inr (by decide)), ⟨fun _ => by decide, fun _ => rfl⟩, ?_⟩
    · unfold po_isT
      rw [if_neg (by simp)]; decide
    · have : po_pn (-1) = 10 := by decide
      rw [this]
      refine ⟨fun z => ?_, fun z => by omega⟩
      unfold po_isT at z
      exact absurd (of_decide_eq_true z).1 (by decide)
  · have h10 : po_pn p = p.toNatClampNeg := if_neg h1
    by_cases h9 : p = 9
    · subst h9
      have e9 : po_pn 9 = 9 := by decide
      refine ⟨by decide, ?_, Or.inr (Or.inl e9), ⟨fun z => absurd z h1, fun z => by rw [e9] at z; omega⟩, ?_⟩
      · rw [if_neg]
        · decide
        · unfold po_isT
          intro z
          have := (of_decide_eq_true z).2
          rw [show (9 : Int32) = nI 9 by decide, nI_ltI (by decide) (by omega)] at this
          omega
      · rw [e9]
        refine ⟨fun z => ?_, fun z => by omega⟩
        unfold po_isT at z
        have := (of_decide_eq_true z).2
        rw [show (9 : Int32) = nI 9 by decide, nI_ltI (by decide) (by omega)] at this
        exact this
    · have ht : po_isT σ p = true := by simpa [h1, h9] using hp
      have hz := ht
      unfold po_isT at hz
      have hz := of_decide_eq_true hz
      obtain ⟨n, hn, rfl⟩ := nI_of hz.1
      have hn4 := (nI_ltI hn (by omega)).mp hz.2
      rw [nI_clamp hn] at h10
      rw [h10, ht]
      refine ⟨?_, ?_, Or.inl hn4, ⟨fun z => absurd z h1, fun z => by omega⟩, ⟨fun _ => hn4, fun _ => rfl⟩⟩
      · unfold sp_pI; rw [if_neg (by omega)]
      · unfold sp_isT; rw [if_pos rfl, if_pos (by omega)]; rfl

theorem ap_b78 {d : Nat} {Q : ax_P} {lv : ax_L} {st : List Value} {h : ax_H} {u : Nat} (hu : u ≤ 1) (k : AW G mX1_append d 0 0 Q 86 lv (.int (nI u) :: st) h 0 0) : AW G mX1_append d 0 0 Q 78 lv (.int (nI u) :: st) h 0 0 := by
  rcases (show u = 0 ∨ u = 1 by omega) with rfl | rfl
  · refine ax_if_eq (tgt := 85) dX1_append_78 (by decide) (fun _ => ?_) (fun z => absurd rfl z)
    refine ax_iconst (v := 0) dX1_append_85 (by decide) ?_
    exact k
  · refine ax_if_eq (tgt := 85) dX1_append_78 (by decide) (fun z => absurd z (by decide)) (fun _ => ?_)
    refine ax_iconst (v := 1) dX1_append_81 (by decide) ?_
    refine ax_goto (tgt := 86) dX1_append_82 (by decide) ?_
    exact k
theorem ap_b109 {d : Nat} {Q : ax_P} {lv : ax_L} {st : List Value} {h : ax_H} {u : Nat} (hu : u ≤ 1) (k : AW G mX1_append d 0 0 Q 117 lv (.int (nI u) :: st) h 0 0) : AW G mX1_append d 0 0 Q 109 lv (.int (nI u) :: st) h 0 0 := by
  rcases (show u = 0 ∨ u = 1 by omega) with rfl | rfl
  · refine ax_if_eq (tgt := 116) dX1_append_109 (by decide) (fun _ => ?_) (fun z => absurd rfl z)
    refine ax_iconst (v := 0) dX1_append_116 (by decide) ?_
    exact k
  · refine ax_if_eq (tgt := 116) dX1_append_109 (by decide) (fun z => absurd z (by decide)) (fun _ => ?_)
    refine ax_iconst (v := 1) dX1_append_112 (by decide) ?_
    refine ax_goto (tgt := 117) dX1_append_113 (by decide) ?_
    exact k
theorem ap_b139 {d : Nat} {Q : ax_P} {lv : ax_L} {st : List Value} {h : ax_H} {u : Nat} (hu : u ≤ 1) (k : AW G mX1_append d 0 0 Q 147 lv (.int (nI u) :: st) h 0 0) : AW G mX1_append d 0 0 Q 139 lv (.int (nI u) :: st) h 0 0 := by
  rcases (show u = 0 ∨ u = 1 by omega) with rfl | rfl
  · refine ax_if_eq (tgt := 146) dX1_append_139 (by decide) (fun _ => ?_) (fun z => absurd rfl z)
    refine ax_iconst (v := 0) dX1_append_146 (by decide) ?_
    exact k
  · refine ax_if_eq (tgt := 146) dX1_append_139 (by decide) (fun z => absurd z (by decide)) (fun _ => ?_)
    refine ax_iconst (v := 1) dX1_append_142 (by decide) ?_
    refine ax_goto (tgt := 147) dX1_append_143 (by decide) ?_
    exact k
def ap_S (S : cs_S) (n : Nat) (t a b c k : Int32) (u1 u2 u3 : Nat) : cs_S := (cs_setS (cs_setA (cs_setA (cs_setA (cs_setA (cs_setA (cs_setA (cs_setA (cs_setA S 2 (upd (S.2.1 2) (nI n).toNatClampNeg t)) 3 (upd (S.2.1 3) (nI (3 * n)).toNatClampNeg a)) 3 (upd (upd (S.2.1 3) (nI (3 * n)).toNatClampNeg a) (nI (3 * n + 1)).toNatClampNeg b)) 3 (upd (upd (upd (S.2.1 3) (nI (3 * n)).toNatClampNeg a) (nI (3 * n + 1)).toNatClampNeg b) (nI (3 * n + 2)).toNatClampNeg c)) 4 (upd (S.2.1 4) (nI (3 * n + 2)).toNatClampNeg (nI u3))) 4 (upd (upd (S.2.1 4) (nI (3 * n + 2)).toNatClampNeg (nI u3)) (nI (3 * n + 1)).toNatClampNeg (nI (u3 + u2)))) 4 (upd (upd (upd (S.2.1 4) (nI (3 * n + 2)).toNatClampNeg (nI u3)) (nI (3 * n + 1)).toNatClampNeg (nI (u3 + u2))) (nI (3 * n)).toNatClampNeg (nI (u3 + u2 + u1)))) 5 (upd (S.2.1 5) (nI n).toNatClampNeg k)) 3 (nI (n + 1)))

set_option maxRecDepth 100000 in
set_option maxHeartbeats 4000000 in
theorem ch_append (hi : cs_inj ad) (d : Nat) (S : cs_S) (h : ax_H) {σ : sp_St} {n : Nat} (h2 : S.1 2 = nI σ.1.2.2.1) (h3 : S.1 3 = nI n) (hn : n < 6) (t a b c k : Int32) {u1 u2 u3 : Nat} (hu1 : (if po_isT σ a then 1 else 0 : Int32) = nI u1) (hu2 : (if po_isT σ b then 1 else 0 : Int32) = nI u2) (hu3 : (if po_isT σ c then 1 else 0 : Int32) = nI u3) (hu11 : u1 ≤ 1) (hu21 : u2 ≤ 1) (hu31 : u3 ≤ 1) : AW G mX1_append (d + 2) 0 0 (fun r h1 => r = .inl none ∧ ∃ S', h1 = cs_O ad S' h ∧ S' = ap_S S n t a b c k u1 u2 u3) 0 [(0, .ref (ad (0, 1))), (1, .int t), (2, .int a), (3, .int b), (4, .int c), (5, .int k)] [] (cs_O ad S h) 0 0 := by
  have hFin : ap_S S n t a b c k u1 u2 u3 = ap_S S n t a b c k u1 u2 u3 := rfl
  refine ax_aload_n dX1_append_0 rfl ?_
  refine ax_get (v := .int (nI n)) dX1_append_1 fkX1_21 (cs_get hi (cs_k0 (by decide))) (congrArg (fun z => some (Value.int z)) (h3)) ?_
  refine ax_if_lt (tgt := 16) dX1_append_4 (by decide) (fun z => absurd z (nI_pos (by omega))) (fun _ => ?_)
  refine ax_aload_n dX1_append_7 rfl ?_
  refine ax_get (v := .int (nI n)) dX1_append_8 fkX1_21 (cs_get hi (cs_k0 (by decide))) (congrArg (fun z => some (Value.int z)) (h3)) ?_
  refine ax_bipush (v := 6) dX1_append_11 (by decide) ?_
  refine ax_icmp_lt (tgt := 17) dX1_append_13 (by decide) (fun _ => ?_) (fun z => absurd (il_lt n 6 hn) z)
  refine ax_aload_n dX1_append_17 rfl ?_
  refine ax_get (v := .int (nI n)) dX1_append_18 fkX1_21 (cs_get hi (cs_k0 (by decide))) (congrArg (fun z => some (Value.int z)) (h3)) ?_
  refine ax_iconst (v := 3) dX1_append_21 (by decide) ?_
  refine ax_imul dX1_append_22 ?_
  refine ax_top (y := (nI (3 * n))) (by rw [show (3 : Int32) = nI 3 by decide, pk_mul, Nat.mul_comm]) ?_
  refine ax_istore dX1_append_23 (by decide) ?_
  refine ax_sub (lv' := [(0, .ref (ad (0, 1))), (1, .int t), (2, .int a), (3, .int b), (4, .int c), (5, .int k), (6, .int (nI (3 * n)))]) (fun _ z => z) ?_
  refine ax_aload_n dX1_append_25 rfl ?_
  refine ax_get (v := .ref (ad (0, 2))) dX1_append_26 fkX1_24 (cs_get hi (cs_k0 (by decide))) rfl ?_
  refine ax_aload_n dX1_append_29 rfl ?_
  refine ax_get (v := .int (nI n)) dX1_append_30 fkX1_21 (cs_get hi (cs_k0 (by decide))) (congrArg (fun z => some (Value.int z)) (h3)) ?_
  refine ax_iload_n dX1_append_33 rfl ?_
  refine ax_iast dX1_append_34 (cs_get hi (cs_k0 (by decide))) (nI_in hn (by decide)) ?_
  refine ax_eqh (cs_pa2 hi) ?_
  refine ax_aload_n dX1_append_35 rfl ?_
  refine ax_get (v := .ref (ad (0, 3))) dX1_append_36 fkX1_28 (cs_get hi (cs_k0 (by decide))) rfl ?_
  refine ax_iload dX1_append_39 rfl ?_
  refine ax_iload_n dX1_append_41 rfl ?_
  refine ax_iast dX1_append_42 (cs_get hi (cs_k0 (by decide))) (nI_in (by omega) (by decide)) ?_
  refine ax_eqh (cs_pa3 hi) ?_
  refine ax_aload_n dX1_append_43 rfl ?_
  refine ax_get (v := .ref (ad (0, 3))) dX1_append_44 fkX1_28 (cs_get hi (cs_k0 (by decide))) rfl ?_
  refine ax_iload dX1_append_47 rfl ?_
  refine ax_iconst (v := 1) dX1_append_49 (by decide) ?_
  refine ax_iadd dX1_append_50 ?_
  refine ax_top (y := (nI (3 * n + 1))) (nI_1 _) ?_
  refine ax_iload_n dX1_append_51 rfl ?_
  refine ax_iast dX1_append_52 (cs_get hi (cs_k0 (by decide))) (nI_in (by omega) (by decide)) ?_
  refine ax_eqh (cs_pa3 hi) ?_
  refine ax_aload_n dX1_append_53 rfl ?_
  refine ax_get (v := .ref (ad (0, 3))) dX1_append_54 fkX1_28 (cs_get hi (cs_k0 (by decide))) rfl ?_
  refine ax_iload dX1_append_57 rfl ?_
  refine ax_iconst (v := 2) dX1_append_59 (by decide) ?_
  refine ax_iadd dX1_append_60 ?_
  refine ax_top (y := (nI (3 * n + 2))) (nI_add _ 2) ?_
  refine ax_iload dX1_append_61 rfl ?_
  refine ax_iast dX1_append_63 (cs_get hi (cs_k0 (by decide))) (nI_in (by omega) (by decide)) ?_
  refine ax_eqh (cs_pa3 hi) ?_
  refine ax_aload_n dX1_append_64 rfl ?_
  refine ax_get (v := .ref (ad (0, 4))) dX1_append_65 fkX1_31 (cs_get hi (cs_k0 (by decide))) rfl ?_
  refine ax_iload dX1_append_68 rfl ?_
  refine ax_iconst (v := 2) dX1_append_70 (by decide) ?_
  refine ax_iadd dX1_append_71 ?_
  refine ax_top (y := (nI (3 * n + 2))) (nI_add _ 2) ?_
  refine ax_aload_n dX1_append_72 rfl ?_
  refine ax_iload dX1_append_73 rfl ?_
  refine ax_callV (b := (ad (0, 1))) (av := [.int c]) (rest := [.int (nI (3 * n + 2)), .ref (ad (0, 4))]) (mc' := 0) (ms' := 0) dX1_append_75 rfl lkX1_41 (cs_get hi (cs_k0 (by decide))) rfl (Nat.le_of_ble_eq_true rfl) (Nat.le_of_ble_eq_true rfl) (by decide) (by decide) (cg_hasT2 hi _ (cs_setA (cs_setA (cs_setA (cs_setA S 2 (upd (S.2.1 2) (nI n).toNatClampNeg t)) 3 (upd (S.2.1 3) (nI (3 * n)).toNatClampNeg a)) 3 (upd (upd (S.2.1 3) (nI (3 * n)).toNatClampNeg a) (nI (3 * n + 1)).toNatClampNeg b)) 3 (upd (upd (upd (S.2.1 3) (nI (3 * n)).toNatClampNeg a) (nI (3 * n + 1)).toNatClampNeg b) (nI (3 * n + 2)).toNatClampNeg c)) h (σ := σ) h2 hu3) (fun E9 h9 q9 => by cases q9.1) (fun v9 h9 q9 => ?_)
  obtain ⟨e9, rfl⟩ := q9
  cases e9
  show AW G mX1_append (d + 2) 0 0 _ 78 [(0, .ref (ad (0, 1))), (1, .int t), (2, .int a), (3, .int b), (4, .int c), (5, .int k), (6, .int (nI (3 * n)))] [.int (nI u3), .int (nI (3 * n + 2)), .ref (ad (0, 4))] (cs_O ad (cs_setA (cs_setA (cs_setA (cs_setA S 2 (upd (S.2.1 2) (nI n).toNatClampNeg t)) 3 (upd (S.2.1 3) (nI (3 * n)).toNatClampNeg a)) 3 (upd (upd (S.2.1 3) (nI (3 * n)).toNatClampNeg a) (nI (3 * n + 1)).toNatClampNeg b)) 3 (upd (upd (upd (S.2.1 3) (nI (3 * n)).toNatClampNeg a) (nI (3 * n + 1)).toNatClampNeg b) (nI (3 * n + 2)).toNatClampNeg c)) h) 0 0
  refine ap_b78 hu31 ?_
  refine ax_iast dX1_append_86 (cs_get hi (cs_k0 (by decide))) (nI_in (by omega) (by decide)) ?_
  refine ax_eqh (cs_pa4 hi) ?_
  refine ax_aload_n dX1_append_87 rfl ?_
  refine ax_get (v := .ref (ad (0, 4))) dX1_append_88 fkX1_31 (cs_get hi (cs_k0 (by decide))) rfl ?_
  refine ax_iload dX1_append_91 rfl ?_
  refine ax_iconst (v := 1) dX1_append_93 (by decide) ?_
  refine ax_iadd dX1_append_94 ?_
  refine ax_top (y := (nI (3 * n + 1))) (nI_1 _) ?_
  refine ax_aload_n dX1_append_95 rfl ?_
  refine ax_get (v := .ref (ad (0, 4))) dX1_append_96 fkX1_31 (cs_get hi (cs_k0 (by decide))) rfl ?_
  refine ax_iload dX1_append_99 rfl ?_
  refine ax_iconst (v := 2) dX1_append_101 (by decide) ?_
  refine ax_iadd dX1_append_102 ?_
  refine ax_top (y := (nI (3 * n + 2))) (nI_add _ 2) ?_
  refine ax_ialdv (x := (nI u3)) dX1_append_103 (cs_get hi (cs_k0 (by decide))) (nI_in (by omega) (by decide)) (pk_us) ?_
  refine ax_aload_n dX1_append_104 rfl ?_
  refine ax_iload_n dX1_append_105 rfl ?_
  refine ax_callV (b := (ad (0, 1))) (av := [.int b]) (rest := [.int (nI u3), .int (nI (3 * n + 1)), .ref (ad (0, 4))]) (mc' := 0) (ms' := 0) dX1_append_106 rfl lkX1_41 (cs_get hi (cs_k0 (by decide))) rfl (Nat.le_of_ble_eq_true rfl) (Nat.le_of_ble_eq_true rfl) (by decide) (by decide) (cg_hasT2 hi _ (cs_setA (cs_setA (cs_setA (cs_setA (cs_setA S 2 (upd (S.2.1 2) (nI n).toNatClampNeg t)) 3 (upd (S.2.1 3) (nI (3 * n)).toNatClampNeg a)) 3 (upd (upd (S.2.1 3) (nI (3 * n)).toNatClampNeg a) (nI (3 * n + 1)).toNatClampNeg b)) 3 (upd (upd (upd (S.2.1 3) (nI (3 * n)).toNatClampNeg a) (nI (3 * n + 1)).toNatClampNeg b) (nI (3 * n + 2)).toNatClampNeg c)) 4 (upd (S.2.1 4) (nI (3 * n + 2)).toNatClampNeg (nI u3))) h (σ := σ) h2 hu2) (fun E9 h9 q9 => by cases q9.1) (fun v9 h9 q9 => ?_)
  obtain ⟨e9, rfl⟩ := q9
  cases e9
  show AW G mX1_append (d + 2) 0 0 _ 109 [(0, .ref (ad (0, 1))), (1, .int t), (2, .int a), (3, .int b), (4, .int c), (5, .int k), (6, .int (nI (3 * n)))] [.int (nI u2), .int (nI u3), .int (nI (3 * n + 1)), .ref (ad (0, 4))] (cs_O ad (cs_setA (cs_setA (cs_setA (cs_setA (cs_setA S 2 (upd (S.2.1 2) (nI n).toNatClampNeg t)) 3 (upd (S.2.1 3) (nI (3 * n)).toNatClampNeg a)) 3 (upd (upd (S.2.1 3) (nI (3 * n)).toNatClampNeg a) (nI (3 * n + 1)).toNatClampNeg b)) 3 (upd (upd (upd (S.2.1 3) (nI (3 * n)).toNatClampNeg a) (nI (3 * n + 1)).toNatClampNeg b) (nI (3 * n + 2)).toNatClampNeg c)) 4 (upd (S.2.1 4) (nI (3 * n + 2)).toNatClampNeg (nI u3))) h) 0 0
  refine ap_b109 hu21 ?_
  refine ax_iadd dX1_append_117 ?_
  refine ax_top (y := (nI (u3 + u2))) (nI_add _ _) ?_
  refine ax_iast dX1_append_118 (cs_get hi (cs_k0 (by decide))) (nI_in (by omega) (by decide)) ?_
  refine ax_eqh (cs_pa4 hi) ?_
  refine ax_aload_n dX1_append_119 rfl ?_
  refine ax_get (v := .ref (ad (0, 4))) dX1_append_120 fkX1_31 (cs_get hi (cs_k0 (by decide))) rfl ?_
  refine ax_iload dX1_append_123 rfl ?_
  refine ax_aload_n dX1_append_125 rfl ?_
  refine ax_get (v := .ref (ad (0, 4))) dX1_append_126 fkX1_31 (cs_get hi (cs_k0 (by decide))) rfl ?_
  refine ax_iload dX1_append_129 rfl ?_
  refine ax_iconst (v := 1) dX1_append_131 (by decide) ?_
  refine ax_iadd dX1_append_132 ?_
  refine ax_top (y := (nI (3 * n + 1))) (nI_1 _) ?_
  refine ax_ialdv (x := (nI (u3 + u2))) dX1_append_133 (cs_get hi (cs_k0 (by decide))) (nI_in (by omega) (by decide)) (pk_us) ?_
  refine ax_aload_n dX1_append_134 rfl ?_
  refine ax_iload_n dX1_append_135 rfl ?_
  refine ax_callV (b := (ad (0, 1))) (av := [.int a]) (rest := [.int (nI (u3 + u2)), .int (nI (3 * n)), .ref (ad (0, 4))]) (mc' := 0) (ms' := 0) dX1_append_136 rfl lkX1_41 (cs_get hi (cs_k0 (by decide))) rfl (Nat.le_of_ble_eq_true rfl) (Nat.le_of_ble_eq_true rfl) (by decide) (by decide) (cg_hasT2 hi _ (cs_setA (cs_setA (cs_setA (cs_setA (cs_setA (cs_setA S 2 (upd (S.2.1 2) (nI n).toNatClampNeg t)) 3 (upd (S.2.1 3) (nI (3 * n)).toNatClampNeg a)) 3 (upd (upd (S.2.1 3) (nI (3 * n)).toNatClampNeg a) (nI (3 * n + 1)).toNatClampNeg b)) 3 (upd (upd (upd (S.2.1 3) (nI (3 * n)).toNatClampNeg a) (nI (3 * n + 1)).toNatClampNeg b) (nI (3 * n + 2)).toNatClampNeg c)) 4 (upd (S.2.1 4) (nI (3 * n + 2)).toNatClampNeg (nI u3))) 4 (upd (upd (S.2.1 4) (nI (3 * n + 2)).toNatClampNeg (nI u3)) (nI (3 * n + 1)).toNatClampNeg (nI (u3 + u2)))) h (σ := σ) h2 hu1) (fun E9 h9 q9 => by cases q9.1) (fun v9 h9 q9 => ?_)
  obtain ⟨e9, rfl⟩ := q9
  cases e9
  show AW G mX1_append (d + 2) 0 0 _ 139 [(0, .ref (ad (0, 1))), (1, .int t), (2, .int a), (3, .int b), (4, .int c), (5, .int k), (6, .int (nI (3 * n)))] [.int (nI u1), .int (nI (u3 + u2)), .int (nI (3 * n)), .ref (ad (0, 4))] (cs_O ad (cs_setA (cs_setA (cs_setA (cs_setA (cs_setA (cs_setA S 2 (upd (S.2.1 2) (nI n).toNatClampNeg t)) 3 (upd (S.2.1 3) (nI (3 * n)).toNatClampNeg a)) 3 (upd (upd (S.2.1 3) (nI (3 * n)).toNatClampNeg a) (nI (3 * n + 1)).toNatClampNeg b)) 3 (upd (upd (upd (S.2.1 3) (nI (3 * n)).toNatClampNeg a) (nI (3 * n + 1)).toNatClampNeg b) (nI (3 * n + 2)).toNatClampNeg c)) 4 (upd (S.2.1 4) (nI (3 * n + 2)).toNatClampNeg (nI u3))) 4 (upd (upd (S.2.1 4) (nI (3 * n + 2)).toNatClampNeg (nI u3)) (nI (3 * n + 1)).toNatClampNeg (nI (u3 + u2)))) h) 0 0
  refine ap_b139 hu11 ?_
  refine ax_iadd dX1_append_147 ?_
  refine ax_top (y := (nI (u3 + u2 + u1))) (nI_add _ _) ?_
  refine ax_iast dX1_append_148 (cs_get hi (cs_k0 (by decide))) (nI_in (by omega) (by decide)) ?_
  refine ax_eqh (cs_pa4 hi) ?_
  refine ax_aload_n dX1_append_149 rfl ?_
  refine ax_get (v := .ref (ad (0, 5))) dX1_append_150 fkX1_34 (cs_get hi (cs_k0 (by decide))) rfl ?_
  refine ax_aload_n dX1_append_153 rfl ?_
  refine ax_get (v := .int (nI n)) dX1_append_154 fkX1_21 (cs_get hi (cs_k0 (by decide))) (congrArg (fun z => some (Value.int z)) (h3)) ?_
  refine ax_iload dX1_append_157 rfl ?_
  refine ax_iast dX1_append_159 (cs_get hi (cs_k0 (by decide))) (nI_in hn (by decide)) ?_
  refine ax_eqh (cs_pa5 hi) ?_
  refine ax_aload_n dX1_append_160 rfl ?_
  refine ax_dup dX1_append_161 rfl ?_
  refine ax_get (v := .int (nI n)) dX1_append_162 fkX1_21 (cs_get hi (cs_k0 (by decide))) (congrArg (fun z => some (Value.int z)) (h3)) ?_
  refine ax_iconst (v := 1) dX1_append_165 (by decide) ?_
  refine ax_iadd dX1_append_166 ?_
  refine ax_top (y := (nI (n + 1))) (nI_1 n) ?_
  refine ax_put dX1_append_167 fpX1_21 (cs_get hi (cs_k0 (by decide))) rfl rfl (Nat.le_of_ble_eq_true rfl) ?_
  refine ax_eqh (cs_ps3 hi) ?_
  exact ax_vret (st := []) dX1_append_170 rfl ⟨rfl, _, rfl, hFin⟩
theorem ap_g {S : cs_S} {g : sp_G} {q : sp_C} {t a b c k : Int32} {u1 u2 u3 : Nat} (hg : cs_g S g) (hn : g.2.2.2.length < 6) (h0 : t = nI q.1) (h1 : sp_pI q.2.1 = a) (h2 : sp_pI q.2.2.1 = b) (h3 : sp_pI q.2.2.2.1 = c) (h4 : k = nI q.2.2.2.2) (a1 : u1 = sp_isT q.2.1) (a2 : u2 = sp_isT q.2.2.1) (a3 : u3 = sp_isT q.2.2.2.1) : cs_g (ap_S S g.2.2.2.length t a b c k u1 u2 u3) (g.1, g.2.1, g.2.2.1, g.2.2.2 ++ [q]) := by
  refine ⟨hg.1, hg.2.1, hg.2.2.1, ?_, fun j r hj => ?_⟩
  · show nI (g.2.2.2.length + 1) = nI (g.2.2.2 ++ [q]).length
    rw [List.length_append]; rfl
  · show upd (S.2.1 2) (nI g.2.2.2.length).toNatClampNeg t j = _ ∧ (∀ i, i < 3 → upd (upd (upd (S.2.1 3) (nI (3 * g.2.2.2.length)).toNatClampNeg a) (nI (3 * g.2.2.2.length + 1)).toNatClampNeg b) (nI (3 * g.2.2.2.length + 2)).toNatClampNeg c (3 * j + i) = _ ∧ upd (upd (upd (S.2.1 4) (nI (3 * g.2.2.2.length + 2)).toNatClampNeg (nI u3)) (nI (3 * g.2.2.2.length + 1)).toNatClampNeg (nI (u3 + u2))) (nI (3 * g.2.2.2.length)).toNatClampNeg (nI (u3 + u2 + u1)) (3 * j + i) = _) ∧ upd (S.2.1 5) (nI g.2.2.2.length).toNatClampNeg k j = _
    have hjl := (List.getElem?_eq_some_iff.mp hj).1
    rw [List.length_append] at hjl
    have hjl : j < g.2.2.2.length + 1 := hjl
    rw [nI_clamp (by omega), nI_clamp (by omega), nI_clamp (by omega), nI_clamp (by omega)]
    by_cases hlt : j < g.2.2.2.length
    · rw [List.getElem?_append_left hlt] at hj
      obtain ⟨z1, z2, z3⟩ := hg.2.2.2.2 j r hj
      refine ⟨(pk_un (by omega)).trans z1, fun i hi => ⟨?_, ?_⟩, (pk_un (by omega)).trans z3⟩
      · rw [pk_un (by omega), pk_un (by omega), pk_un (by omega)]; exact (z2 i hi).1
      · rw [pk_un (by omega), pk_un (by omega), pk_un (by omega)]; exact (z2 i hi).2
    · have hj0 : j = g.2.2.2.length := by omega
      subst hj0
      rw [List.getElem?_append_right (Nat.le_refl _), Nat.sub_self] at hj
      have hj : q = r := by simpa using hj
      subst hj
      refine ⟨pk_us.trans h0, fun i hi => ?_, pk_us.trans h4⟩
      rcases (show i = 0 ∨ i = 1 ∨ i = 2 by omega) with rfl | rfl | rfl
      · refine ⟨?_, ?_⟩
        · rw [pk_un (by omega), pk_un (by omega)]; exact pk_us.trans h1.symm
        · refine (pk_us (k := 3 * g.2.2.2.length)).trans ?_
          rw [a1, a2, a3]
          show nI _ = nI (sp_isT q.2.1 + (sp_isT q.2.2.1 + sp_isT q.2.2.2.1))
          congr 1; omega
      · refine ⟨?_, ?_⟩
        · rw [pk_un (by omega), pk_us]; exact h2.symm
        · rw [pk_un (by omega), pk_us, a2, a3]
          show nI _ = nI (sp_isT q.2.2.1 + sp_isT q.2.2.2.1)
          congr 1; omega
      · refine ⟨?_, ?_⟩
        · rw [pk_us]; exact h3.symm
        · rw [pk_un (by omega), pk_un (by omega), pk_us, a3]; rfl

set_option maxRecDepth 100000 in
set_option maxHeartbeats 4000000 in
theorem pb_addCon (hi : cs_inj ad) (d : Nat) (S : cs_S) (h : ax_H) {σ : sp_St} (hC : CI σ S) (t : Int32) (a : Int32) (b : Int32) (c : Int32) (k : Int32) : AW G mX6_addConstructor (d + 16) 1 6 (pb_Q ad h (pb_nm ["java/lang/IndexOutOfBoundsException", "java/lang/IllegalArgumentException", "java/lang/IllegalStateException"]) (po_addCon σ t a b c k)) 0 [(0, .ref (ad (0, 0))), (1, .int t), (2, .int a), (3, .int b), (4, .int c), (5, .int k)] [] (cs_O ad S h) 0 0 := by
  have hw := hC.1
  have it1 : ∀ p, sp_isT p ≤ 1 := fun p => by unfold sp_isT; split <;> omega
  cases hk1 : po_isT σ t with
  | false =>
    rw [show po_addCon σ t a b c k = ((1, 0), σ) from if_pos hk1]
    refine ax_aload_n dX6_addConstructor_0 rfl ?_
    refine ax_iload_n dX6_addConstructor_1 rfl ?_
    refine ax_callV (b := (ad (0, 0))) (av := [.int t]) (rest := []) (mc' := 1) (ms' := 6) dX6_addConstructor_2 rfl lkX6_75 (cs_get hi (cs_k0 (by decide))) rfl (Nat.le_of_ble_eq_true rfl) (Nat.le_of_ble_eq_true rfl) (by decide) (by decide) (rq_typeN hi _ S h hC hk1) (fun E9 h9 q9 => by obtain ⟨e9, rfl⟩ := q9; cases e9; exact ⟨rfl, _, rfl, hC⟩) (fun v9 h9 q9 => ?_)
    cases q9.1
  | true =>
    cases hk2 : po_pars σ a b c with
    | false =>
      rw [show po_addCon σ t a b c k = ((2, 0), σ) from (if_neg (by rw [hk1]; decide)).trans (if_pos (Or.inl hk2))]
      refine ax_aload_n dX6_addConstructor_0 rfl ?_
      refine ax_iload_n dX6_addConstructor_1 rfl ?_
      refine ax_callV (b := (ad (0, 0))) (av := [.int t]) (rest := []) (mc' := 0) (ms' := 0) dX6_addConstructor_2 rfl lkX6_75 (cs_get hi (cs_k0 (by decide))) rfl (Nat.le_of_ble_eq_true rfl) (Nat.le_of_ble_eq_true rfl) (by decide) (by decide) (rq_typeY hi _ S h hC hk1) (fun E9 h9 q9 => by cases q9.1) (fun v9 h9 q9 => ?_)
      obtain ⟨e9, rfl⟩ := q9
      cases e9
      show AW G mX6_addConstructor (d + 16) 1 6 _ 5 [(0, .ref (ad (0, 0))), (1, .int t), (2, .int a), (3, .int b), (4, .int c), (5, .int k)] [] (cs_O ad S h) 0 0
      refine ax_aload_n dX6_addConstructor_5 rfl ?_
      refine ax_get (v := .ref (ad (0, 1))) dX6_addConstructor_6 fkX6_10 (cs_get hi (cs_k0 (by decide))) rfl ?_
      refine ax_iload_n dX6_addConstructor_9 rfl ?_
      refine ax_iload_n dX6_addConstructor_10 rfl ?_
      refine ax_iload dX6_addConstructor_11 rfl ?_
      refine ax_callV (b := (ad (0, 1))) (av := [.int a, .int b, .int c]) (rest := []) (mc' := 0) (ms' := 0) dX6_addConstructor_13 rfl lkX6_79 (cs_get hi (cs_k0 (by decide))) rfl (Nat.le_of_ble_eq_true rfl) (Nat.le_of_ble_eq_true rfl) (by decide) (by decide) (cg_pars hi _ S h hC.2.1.2.2.1 a b c) (fun E9 h9 q9 => by cases q9.1) (fun v9 h9 q9 => ?_)
      obtain ⟨e9, rfl⟩ := q9
      cases e9
      show AW G mX6_addConstructor (d + 16) 1 6 _ 16 [(0, .ref (ad (0, 0))), (1, .int t), (2, .int a), (3, .int b), (4, .int c), (5, .int k)] [.int (if po_pars σ a b c then 1 else 0)] (cs_O ad S h) 0 0
      refine ax_if_ne (tgt := 29) dX6_addConstructor_16 (by decide) (fun z => absurd (by rw [hk2]; decide) z) (fun _ => ?_)
      exact ax_throw rfl (thIAE (List.mem_of_getElem? (i := 2) rfl)) dX6_addConstructor_19 dX6_addConstructor_22 dX6_addConstructor_23 dX6_addConstructor_25 dX6_addConstructor_28 (by decide) (by decide) (by decide) ⟨rfl, S, rfl, hC⟩
    | true =>
      by_cases c0 : k < 0
      · rw [show po_addCon σ t a b c k = ((2, 0), σ) from (if_neg (by rw [hk1]; decide)).trans (if_pos (Or.inr (Or.inl c0)))]
        refine ax_aload_n dX6_addConstructor_0 rfl ?_
        refine ax_iload_n dX6_addConstructor_1 rfl ?_
        refine ax_callV (b := (ad (0, 0))) (av := [.int t]) (rest := []) (mc' := 0) (ms' := 0) dX6_addConstructor_2 rfl lkX6_75 (cs_get hi (cs_k0 (by decide))) rfl (Nat.le_of_ble_eq_true rfl) (Nat.le_of_ble_eq_true rfl) (by decide) (by decide) (rq_typeY hi _ S h hC hk1) (fun E9 h9 q9 => by cases q9.1) (fun v9 h9 q9 => ?_)
        obtain ⟨e9, rfl⟩ := q9
        cases e9
        show AW G mX6_addConstructor (d + 16) 1 6 _ 5 [(0, .ref (ad (0, 0))), (1, .int t), (2, .int a), (3, .int b), (4, .int c), (5, .int k)] [] (cs_O ad S h) 0 0
        refine ax_aload_n dX6_addConstructor_5 rfl ?_
        refine ax_get (v := .ref (ad (0, 1))) dX6_addConstructor_6 fkX6_10 (cs_get hi (cs_k0 (by decide))) rfl ?_
        refine ax_iload_n dX6_addConstructor_9 rfl ?_
        refine ax_iload_n dX6_addConstructor_10 rfl ?_
        refine ax_iload dX6_addConstructor_11 rfl ?_
        refine ax_callV (b := (ad (0, 1))) (av := [.int a, .int b, .int c]) (rest := []) (mc' := 0) (ms' := 0) dX6_addConstructor_13 rfl lkX6_79 (cs_get hi (cs_k0 (by decide))) rfl (Nat.le_of_ble_eq_true rfl) (Nat.le_of_ble_eq_true rfl) (by decide) (by decide) (cg_pars hi _ S h hC.2.1.2.2.1 a b c) (fun E9 h9 q9 => by cases q9.1) (fun v9 h9 q9 => ?_)
        obtain ⟨e9, rfl⟩ := q9
        cases e9
        show AW G mX6_addConstructor (d + 16) 1 6 _ 16 [(0, .ref (ad (0, 0))), (1, .int t), (2, .int a), (3, .int b), (4, .int c), (5, .int k)] [.int (if po_pars σ a b c then 1 else 0)] (cs_O ad S h) 0 0
        refine ax_if_ne (tgt := 29) dX6_addConstructor_16 (by decide) (fun _ => ?_) (fun z => absurd z (by rw [hk2]; decide))
        refine ax_iload dX6_addConstructor_29 rfl ?_
        refine ax_if_lt (tgt := 40) dX6_addConstructor_31 (by decide) (fun _ => ?_) (fun z => absurd c0 z)
        exact ax_throw rfl (thIAE (List.mem_of_getElem? (i := 3) rfl)) dX6_addConstructor_40 dX6_addConstructor_43 dX6_addConstructor_44 dX6_addConstructor_46 dX6_addConstructor_49 (by decide) (by decide) (by decide) ⟨rfl, S, rfl, hC⟩
      · by_cases c5 : 5 < k
        · rw [show po_addCon σ t a b c k = ((2, 0), σ) from (if_neg (by rw [hk1]; decide)).trans (if_pos (Or.inr (Or.inr c5)))]
          refine ax_aload_n dX6_addConstructor_0 rfl ?_
          refine ax_iload_n dX6_addConstructor_1 rfl ?_
          refine ax_callV (b := (ad (0, 0))) (av := [.int t]) (rest := []) (mc' := 0) (ms' := 0) dX6_addConstructor_2 rfl lkX6_75 (cs_get hi (cs_k0 (by decide))) rfl (Nat.le_of_ble_eq_true rfl) (Nat.le_of_ble_eq_true rfl) (by decide) (by decide) (rq_typeY hi _ S h hC hk1) (fun E9 h9 q9 => by cases q9.1) (fun v9 h9 q9 => ?_)
          obtain ⟨e9, rfl⟩ := q9
          cases e9
          show AW G mX6_addConstructor (d + 16) 1 6 _ 5 [(0, .ref (ad (0, 0))), (1, .int t), (2, .int a), (3, .int b), (4, .int c), (5, .int k)] [] (cs_O ad S h) 0 0
          refine ax_aload_n dX6_addConstructor_5 rfl ?_
          refine ax_get (v := .ref (ad (0, 1))) dX6_addConstructor_6 fkX6_10 (cs_get hi (cs_k0 (by decide))) rfl ?_
          refine ax_iload_n dX6_addConstructor_9 rfl ?_
          refine ax_iload_n dX6_addConstructor_10 rfl ?_
          refine ax_iload dX6_addConstructor_11 rfl ?_
          refine ax_callV (b := (ad (0, 1))) (av := [.int a, .int b, .int c]) (rest := []) (mc' := 0) (ms' := 0) dX6_addConstructor_13 rfl lkX6_79 (cs_get hi (cs_k0 (by decide))) rfl (Nat.le_of_ble_eq_true rfl) (Nat.le_of_ble_eq_true rfl) (by decide) (by decide) (cg_pars hi _ S h hC.2.1.2.2.1 a b c) (fun E9 h9 q9 => by cases q9.1) (fun v9 h9 q9 => ?_)
          obtain ⟨e9, rfl⟩ := q9
          cases e9
          show AW G mX6_addConstructor (d + 16) 1 6 _ 16 [(0, .ref (ad (0, 0))), (1, .int t), (2, .int a), (3, .int b), (4, .int c), (5, .int k)] [.int (if po_pars σ a b c then 1 else 0)] (cs_O ad S h) 0 0
          refine ax_if_ne (tgt := 29) dX6_addConstructor_16 (by decide) (fun _ => ?_) (fun z => absurd z (by rw [hk2]; decide))
          refine ax_iload dX6_addConstructor_29 rfl ?_
          refine ax_if_lt (tgt := 40) dX6_addConstructor_31 (by decide) (fun z => absurd z c0) (fun _ => ?_)
          refine ax_iload dX6_addConstructor_34 rfl ?_
          refine ax_iconst (v := 5) dX6_addConstructor_36 (by decide) ?_
          refine ax_icmp_le (tgt := 50) dX6_addConstructor_37 (by decide) (fun z => absurd z (i_lt_not c5)) (fun _ => ?_)
          exact ax_throw rfl (thIAE (List.mem_of_getElem? (i := 3) rfl)) dX6_addConstructor_40 dX6_addConstructor_43 dX6_addConstructor_44 dX6_addConstructor_46 dX6_addConstructor_49 (by decide) (by decide) (by decide) ⟨rfl, S, rfl, hC⟩
        · have hno : ¬ (po_pars σ a b c = false ∨ k < 0 ∨ 5 < k) := by
            rintro (z | z | z)
            · rw [hk2] at z; cases z
            · exact c0 z
            · exact c5 z
          by_cases h6 : σ.1.2.2.2.length = 6
          · rw [show po_addCon σ t a b c k = ((3, 0), σ) from (if_neg (by rw [hk1]; decide)).trans ((if_neg hno).trans (if_pos h6))]
            refine ax_aload_n dX6_addConstructor_0 rfl ?_
            refine ax_iload_n dX6_addConstructor_1 rfl ?_
            refine ax_callV (b := (ad (0, 0))) (av := [.int t]) (rest := []) (mc' := 0) (ms' := 0) dX6_addConstructor_2 rfl lkX6_75 (cs_get hi (cs_k0 (by decide))) rfl (Nat.le_of_ble_eq_true rfl) (Nat.le_of_ble_eq_true rfl) (by decide) (by decide) (rq_typeY hi _ S h hC hk1) (fun E9 h9 q9 => by cases q9.1) (fun v9 h9 q9 => ?_)
            obtain ⟨e9, rfl⟩ := q9
            cases e9
            show AW G mX6_addConstructor (d + 16) 1 6 _ 5 [(0, .ref (ad (0, 0))), (1, .int t), (2, .int a), (3, .int b), (4, .int c), (5, .int k)] [] (cs_O ad S h) 0 0
            refine ax_aload_n dX6_addConstructor_5 rfl ?_
            refine ax_get (v := .ref (ad (0, 1))) dX6_addConstructor_6 fkX6_10 (cs_get hi (cs_k0 (by decide))) rfl ?_
            refine ax_iload_n dX6_addConstructor_9 rfl ?_
            refine ax_iload_n dX6_addConstructor_10 rfl ?_
            refine ax_iload dX6_addConstructor_11 rfl ?_
            refine ax_callV (b := (ad (0, 1))) (av := [.int a, .int b, .int c]) (rest := []) (mc' := 0) (ms' := 0) dX6_addConstructor_13 rfl lkX6_79 (cs_get hi (cs_k0 (by decide))) rfl (Nat.le_of_ble_eq_true rfl) (Nat.le_of_ble_eq_true rfl) (by decide) (by decide) (cg_pars hi _ S h hC.2.1.2.2.1 a b c) (fun E9 h9 q9 => by cases q9.1) (fun v9 h9 q9 => ?_)
            obtain ⟨e9, rfl⟩ := q9
            cases e9
            show AW G mX6_addConstructor (d + 16) 1 6 _ 16 [(0, .ref (ad (0, 0))), (1, .int t), (2, .int a), (3, .int b), (4, .int c), (5, .int k)] [.int (if po_pars σ a b c then 1 else 0)] (cs_O ad S h) 0 0
            refine ax_if_ne (tgt := 29) dX6_addConstructor_16 (by decide) (fun _ => ?_) (fun z => absurd z (by rw [hk2]; decide))
            refine ax_iload dX6_addConstructor_29 rfl ?_
            refine ax_if_lt (tgt := 40) dX6_addConstructor_31 (by decide) (fun z => absurd z c0) (fun _ => ?_)
            refine ax_iload dX6_addConstructor_34 rfl ?_
            refine ax_iconst (v := 5) dX6_addConstructor_36 (by decide) ?_
            refine ax_icmp_le (tgt := 50) dX6_addConstructor_37 (by decide) (fun _ => ?_) (fun z => absurd (i_not_le c5) z)
            refine ax_aload_n dX6_addConstructor_50 rfl ?_
            refine ax_get (v := .ref (ad (0, 1))) dX6_addConstructor_51 fkX6_10 (cs_get hi (cs_k0 (by decide))) rfl ?_
            refine ax_get (v := .int (nI σ.1.2.2.2.length)) dX6_addConstructor_54 fkX6_87 (cs_get hi (cs_k0 (by decide))) (congrArg (fun z => some (Value.int z)) (hC.2.1.2.2.2.1)) ?_
            refine ax_bipush (v := 6) dX6_addConstructor_57 (by decide) ?_
            refine ax_icmp_lt (tgt := 72) dX6_addConstructor_59 (by decide) (fun z => absurd z (il_nlt σ.1.2.2.2.length 6 (by omega))) (fun _ => ?_)
            exact ax_throw rfl (thISE (List.mem_of_getElem? (i := 4) rfl)) dX6_addConstructor_62 dX6_addConstructor_65 dX6_addConstructor_66 dX6_addConstructor_68 dX6_addConstructor_71 (by decide) (by decide) (by decide) ⟨rfl, S, rfl, hC⟩
          · have hl6 : σ.1.2.2.2.length < 6 := by have := hw.2.2.2.1; omega
            rw [show po_addCon σ t a b c k = ((0, nI σ.1.2.2.2.length), ((σ.1.1, σ.1.2.1, σ.1.2.2.1, σ.1.2.2.2 ++ [(t.toNatClampNeg, po_pn a, po_pn b, po_pn c, k.toNatClampNeg)]), σ.2.1, none)) from (if_neg (by rw [hk1]; decide)).trans ((if_neg hno).trans (if_neg h6))]
            obtain ⟨t, rfl, ht, ht4⟩ := po_isT_nat hw hk1
            have hP := hk2
            unfold po_pars at hP
            simp only [Bool.and_eq_true] at hP
            obtain ⟨⟨p1, p2, p3⟩, p4, p5⟩ := hP
            have h4 := hw.2.2.1
            have pa := pn_ok h4 p1
            have pb := pn_ok h4 p2
            have pc := pn_ok h4 p3
            obtain ⟨kn, hkn, hke⟩ := nI_of2 (x := k) (M := 5) (n := 5) (by decide) c0 (i_not_le c5)
            have hkk : k = nI k.toNatClampNeg := by rw [hke, nI_clamp (by omega)]
            have hwq : sp_wc σ.1.2.2.1 (t, po_pn a, po_pn b, po_pn c, k.toNatClampNeg) := by
              refine ⟨ht, fun i hi3 => ?_, fun z => ?_, fun z => ?_, ?_, by show k.toNatClampNeg ≤ 5; rw [hke, nI_clamp (by omega)]; exact hkn⟩
              · rcases (show i = 0 ∨ i = 1 ∨ i = 2 by omega) with rfl | rfl | rfl
                · exact pa.2.2.1
                · exact pb.2.2.1
                · exact pc.2.2.1
              · have z := pa.2.2.2.1.mpr z
                refine pb.2.2.2.1.mp (Decidable.byContradiction (fun hb => ?_))
                simp [z, hb] at p4
              · have z := pb.2.2.2.1.mpr z
                refine pc.2.2.2.1.mp (Decidable.byContradiction (fun hb => ?_))
                simp [z, hb] at p4
              · rintro ⟨z1, z2, z3⟩
                rw [pa.2.2.2.2.mpr z1, pb.2.2.2.2.mpr z2, pc.2.2.2.2.mpr z3] at p5
                exact absurd p5 (by decide)
            refine ax_aload_n dX6_addConstructor_0 rfl ?_
            refine ax_iload_n dX6_addConstructor_1 rfl ?_
            refine ax_callV (b := (ad (0, 0))) (av := [.int (nI t)]) (rest := []) (mc' := 0) (ms' := 0) dX6_addConstructor_2 rfl lkX6_75 (cs_get hi (cs_k0 (by decide))) rfl (Nat.le_of_ble_eq_true rfl) (Nat.le_of_ble_eq_true rfl) (by decide) (by decide) (rq_typeY hi _ S h hC hk1) (fun E9 h9 q9 => by cases q9.1) (fun v9 h9 q9 => ?_)
            obtain ⟨e9, rfl⟩ := q9
            cases e9
            show AW G mX6_addConstructor (d + 16) 1 6 _ 5 [(0, .ref (ad (0, 0))), (1, .int (nI t)), (2, .int a), (3, .int b), (4, .int c), (5, .int k)] [] (cs_O ad S h) 0 0
            refine ax_aload_n dX6_addConstructor_5 rfl ?_
            refine ax_get (v := .ref (ad (0, 1))) dX6_addConstructor_6 fkX6_10 (cs_get hi (cs_k0 (by decide))) rfl ?_
            refine ax_iload_n dX6_addConstructor_9 rfl ?_
            refine ax_iload_n dX6_addConstructor_10 rfl ?_
            refine ax_iload dX6_addConstructor_11 rfl ?_
            refine ax_callV (b := (ad (0, 1))) (av := [.int a, .int b, .int c]) (rest := []) (mc' := 0) (ms' := 0) dX6_addConstructor_13 rfl lkX6_79 (cs_get hi (cs_k0 (by decide))) rfl (Nat.le_of_ble_eq_true rfl) (Nat.le_of_ble_eq_true rfl) (by decide) (by decide) (cg_pars hi _ S h hC.2.1.2.2.1 a b c) (fun E9 h9 q9 => by cases q9.1) (fun v9 h9 q9 => ?_)
            obtain ⟨e9, rfl⟩ := q9
            cases e9
            show AW G mX6_addConstructor (d + 16) 1 6 _ 16 [(0, .ref (ad (0, 0))), (1, .int (nI t)), (2, .int a), (3, .int b), (4, .int c), (5, .int k)] [.int (if po_pars σ a b c then 1 else 0)] (cs_O ad S h) 0 0
            refine ax_if_ne (tgt := 29) dX6_addConstructor_16 (by decide) (fun _ => ?_) (fun z => absurd z (by rw [hk2]; decide))
            refine ax_iload dX6_addConstructor_29 rfl ?_
            refine ax_if_lt (tgt := 40) dX6_addConstructor_31 (by decide) (fun z => absurd z c0) (fun _ => ?_)
            refine ax_iload dX6_addConstructor_34 rfl ?_
            refine ax_iconst (v := 5) dX6_addConstructor_36 (by decide) ?_
            refine ax_icmp_le (tgt := 50) dX6_addConstructor_37 (by decide) (fun _ => ?_) (fun z => absurd (i_not_le c5) z)
            refine ax_aload_n dX6_addConstructor_50 rfl ?_
            refine ax_get (v := .ref (ad (0, 1))) dX6_addConstructor_51 fkX6_10 (cs_get hi (cs_k0 (by decide))) rfl ?_
            refine ax_get (v := .int (nI σ.1.2.2.2.length)) dX6_addConstructor_54 fkX6_87 (cs_get hi (cs_k0 (by decide))) (congrArg (fun z => some (Value.int z)) (hC.2.1.2.2.2.1)) ?_
            refine ax_bipush (v := 6) dX6_addConstructor_57 (by decide) ?_
            refine ax_icmp_lt (tgt := 72) dX6_addConstructor_59 (by decide) (fun _ => ?_) (fun z => absurd (il_lt σ.1.2.2.2.length 6 hl6) z)
            refine ax_aload_n dX6_addConstructor_72 rfl ?_
            refine ax_get (v := .ref (ad (0, 1))) dX6_addConstructor_73 fkX6_10 (cs_get hi (cs_k0 (by decide))) rfl ?_
            refine ax_iload_n dX6_addConstructor_76 rfl ?_
            refine ax_iload_n dX6_addConstructor_77 rfl ?_
            refine ax_iload_n dX6_addConstructor_78 rfl ?_
            refine ax_iload dX6_addConstructor_79 rfl ?_
            refine ax_iload dX6_addConstructor_81 rfl ?_
            refine ax_callV (b := (ad (0, 1))) (av := [.int (nI t), .int a, .int b, .int c, .int k]) (rest := []) (mc' := 0) (ms' := 0) dX6_addConstructor_83 rfl lkX6_92 (cs_get hi (cs_k0 (by decide))) rfl (Nat.le_of_ble_eq_true rfl) (Nat.le_of_ble_eq_true rfl) (by decide) (by decide) (ch_append hi _ S h (σ := σ) (n := σ.1.2.2.2.length) hC.2.1.2.2.1 hC.2.1.2.2.2.1 hl6 (nI t) a b c k pa.2.1 pb.2.1 pc.2.1 (it1 _) (it1 _) (it1 _)) (fun E9 h9 q9 => by cases q9.1) (fun v9 h9 q9 => ?_)
            obtain ⟨e9, S1, rfl, o1⟩ := q9
            cases e9
            show AW G mX6_addConstructor (d + 16) 1 6 _ 86 [(0, .ref (ad (0, 0))), (1, .int (nI t)), (2, .int a), (3, .int b), (4, .int c), (5, .int k)] [] (cs_O ad S1 h) 0 0
            refine ax_aload_n dX6_addConstructor_86 rfl ?_
            refine ax_callV (b := (ad (0, 0))) (av := []) (rest := []) (mc' := 0) (ms' := 0) dX6_addConstructor_87 rfl lkX6_64 (cs_get hi (cs_k0 (by decide))) rfl (Nat.le_of_ble_eq_true rfl) (Nat.le_of_ble_eq_true rfl) (by decide) (by decide) (ch_forget hi _ S1 h) (fun E9 h9 q9 => by cases q9.1) (fun v9 h9 q9 => ?_)
            obtain ⟨e9, rfl⟩ := q9
            cases e9
            show AW G mX6_addConstructor (d + 16) 1 6 _ 90 [(0, .ref (ad (0, 0))), (1, .int (nI t)), (2, .int a), (3, .int b), (4, .int c), (5, .int k)] [] (cs_O ad (cs_setL (cs_setS S1 7 0) none) h) 0 0
            refine ax_aload_n dX6_addConstructor_90 rfl ?_
            refine ax_get (v := .ref (ad (0, 1))) dX6_addConstructor_91 fkX6_10 (cs_get hi (cs_k0 (by decide))) rfl ?_
            refine ax_get (v := .int ((cs_setL (cs_setS S1 7 0) none).1 3)) dX6_addConstructor_94 fkX6_87 (cs_get hi (cs_k0 (by decide))) rfl ?_
            refine ax_iconst (v := 1) dX6_addConstructor_97 (by decide) ?_
            refine ax_isub dX6_addConstructor_98 ?_
            subst o1
            refine ax_iret (st := []) dX6_addConstructor_99 rfl rfl ⟨?_, _, rfl, ?_⟩
            · show Sum.inl (some (Value.int (nI (σ.1.2.2.2.length + 1) - 1))) = Sum.inl (some (Value.int (nI σ.1.2.2.2.length)))
              rw [nI_pred]
            · refine CI_forget (σ' := ((σ.1.1, σ.1.2.1, σ.1.2.2.1, σ.1.2.2.2 ++ [((nI t).toNatClampNeg, po_pn a, po_pn b, po_pn c, k.toNatClampNeg)]), σ.2.1, none)) hC ⟨hw.1, hw.2.1, hw.2.2.1, by show (σ.1.2.2.2 ++ [_]).length ≤ 6; rw [List.length_append]; show _ + 1 ≤ 6; omega, fun q hq => ?_⟩ ?_ rfl rfl rfl rfl rfl rfl rfl
              · rcases List.mem_append.mp hq with z | z
                · exact hw.2.2.2.2 q z
                · rw [List.mem_singleton.mp z, nI_clamp (by omega)]; exact hwq
              · have hA := ap_g (q := (t, po_pn a, po_pn b, po_pn c, k.toNatClampNeg)) (u1 := sp_isT (po_pn a)) (u2 := sp_isT (po_pn b)) (u3 := sp_isT (po_pn c)) hC.2.1 hl6 rfl pa.1 pb.1 pc.1 hkk rfl rfl rfl
                rw [nI_clamp (by omega)]
                exact ⟨hA.1, hA.2.1, hA.2.2.1, hA.2.2.2.1, hA.2.2.2.2⟩
end PUB5
