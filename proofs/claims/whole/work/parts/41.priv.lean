/-! ===== the class's private methods ===== -/
section PRI
variable {G : ax_G} {ad : cs_K → Nat}
theorem cg_hasT (hi : cs_inj ad) (d : Nat) (S : cs_S) (h : ax_H) (k : Int32) : AW G mX1_hasType d 0 0 (fun r h1 => r = .inl (some (.int (if k < 0 then 0 else (if S.1 2 ≤ k then 0 else 1)))) ∧ h1 = cs_O ad S h) 0 [(0, .ref (ad (0, 1))), (1, .int k)] [] (cs_O ad S h) 0 0 := by
  have hks : ∀ k ∈ ([(0, 1)] : List cs_K), k ∈ cs_keys := fun k hk => by simp at hk; subst hk; exact cs_k0 (by decide)
  refine ax_eqh (cs_in hi (ks := [(0, 1)]) hks).symm ?_
  refine ax_mono (ctX1_hasType d (cs_O ad S h) (ad (0, 1)) (S.1 0) (S.1 1) (S.1 2) (S.1 3) (ad (0, 2)) (ad (0, 3)) (ad (0, 4)) (ad (0, 5)) k (by simp)) ?_
  rintro r h1 ⟨e, rfl⟩
  exact ⟨e, cs_in hi hks⟩
theorem po_isT_if {σ : sp_St} {S : cs_S} (hC : CI σ S) (k : Int32) : (if k < 0 then 0 else (if S.1 2 ≤ k then 0 else 1) : Int32) = (if po_isT σ k then 1 else 0) := by
  rw [hC.2.1.2.2.1]
  unfold po_isT
  by_cases h0 : k < 0
  · rw [if_pos h0]; simp [h0]
  · rw [if_neg h0]
    by_cases h1 : nI σ.1.2.2.1 ≤ k
    · rw [if_pos h1]
      have : ¬ k < nI σ.1.2.2.1 := fun z => by rw [Int32.lt_iff_toInt_lt] at z; rw [Int32.le_iff_toInt_le] at h1; omega
      simp [this]
    · rw [if_neg h1]
      have : k < nI σ.1.2.2.1 := by rw [Int32.lt_iff_toInt_lt]; rw [Int32.le_iff_toInt_le] at h1; omega
      simp [h0, this]
theorem po_isT_nat {σ : sp_St} (hw : sp_wg σ.1) {t : Int32} (h : po_isT σ t = true) : ∃ n, t = nI n ∧ n < σ.1.2.2.1 ∧ n < 4 := by
  unfold po_isT at h
  have h := of_decide_eq_true h
  obtain ⟨n, hn, rfl⟩ := nI_of h.1
  have h4 := hw.2.2.1
  have := (nI_ltI hn (by omega)).mp h.2
  exact ⟨n, rfl, this, by omega⟩

set_option maxRecDepth 100000 in
set_option maxHeartbeats 4000000 in
theorem rq_typeY (hi : cs_inj ad) (d : Nat) (S : cs_S) (h : ax_H) {σ : sp_St} (hC : CI σ S) {k : Int32} (hk : po_isT σ k = true) : AW G mX6_requireType (d + 1) 0 0 (fun r h1 => r = .inl none ∧ h1 = cs_O ad S h) 0 [(0, .ref (ad (0, 0))), (1, .int k)] [] (cs_O ad S h) 0 0 := by
  obtain ⟨Q, hQ⟩ : ∃ Q : ax_P, Q = (fun r h1 => r = .inl none ∧ h1 = cs_O ad S h) := ⟨_, rfl⟩
  rw [← hQ]
  refine ax_aload_n dX6_requireType_0 rfl ?_
  refine ax_get (v := .ref (ad (0, 1))) dX6_requireType_1 fkX6_10 (cs_get hi (cs_k0 (by decide))) rfl ?_
  refine ax_iload_n dX6_requireType_4 rfl ?_
  refine ax_callV (b := (ad (0, 1))) (av := [.int k]) (rest := []) (mc' := 0) (ms' := 0) dX6_requireType_5 rfl lkX6_225 (cs_get hi (cs_k0 (by decide))) rfl (Nat.le_of_ble_eq_true rfl) (Nat.le_of_ble_eq_true rfl) (by decide) (by decide) (cg_hasT hi _ S h k) (fun E9 h9 q9 => by cases q9.1) (fun v9 h9 q9 => ?_)
  obtain ⟨e9, rfl⟩ := q9
  cases e9
  rw [po_isT_if hC]
  show AW G mX6_requireType (d + 1) 0 0 Q 8 [(0, .ref (ad (0, 0))), (1, .int k)] [.int (if po_isT σ k then 1 else 0)] (cs_O ad S h) 0 0
  refine ax_if_ne (tgt := 21) dX6_requireType_8 (by decide) (fun _ => ?_) (fun z => absurd z (by rw [hk]; decide))
  exact ax_vret (st := []) dX6_requireType_21 rfl (by rw [hQ]; exact ⟨rfl, rfl⟩)
set_option maxRecDepth 100000 in
set_option maxHeartbeats 4000000 in
theorem rq_typeN (hi : cs_inj ad) (d : Nat) (S : cs_S) (h : ax_H) {σ : sp_St} (hC : CI σ S) {k : Int32} (hk : po_isT σ k = false) : AW G mX6_requireType (d + 1) 1 6 (fun r h1 => r = .inr "java/lang/IndexOutOfBoundsException" ∧ h1 = cs_O ad S h) 0 [(0, .ref (ad (0, 0))), (1, .int k)] [] (cs_O ad S h) 0 0 := by
  obtain ⟨Q, hQ⟩ : ∃ Q : ax_P, Q = (fun r h1 => r = .inr "java/lang/IndexOutOfBoundsException" ∧ h1 = cs_O ad S h) := ⟨_, rfl⟩
  rw [← hQ]
  refine ax_aload_n dX6_requireType_0 rfl ?_
  refine ax_get (v := .ref (ad (0, 1))) dX6_requireType_1 fkX6_10 (cs_get hi (cs_k0 (by decide))) rfl ?_
  refine ax_iload_n dX6_requireType_4 rfl ?_
  refine ax_callV (b := (ad (0, 1))) (av := [.int k]) (rest := []) (mc' := 0) (ms' := 0) dX6_requireType_5 rfl lkX6_225 (cs_get hi (cs_k0 (by decide))) rfl (Nat.le_of_ble_eq_true rfl) (Nat.le_of_ble_eq_true rfl) (by decide) (by decide) (cg_hasT hi _ S h k) (fun E9 h9 q9 => by cases q9.1) (fun v9 h9 q9 => ?_)
  obtain ⟨e9, rfl⟩ := q9
  cases e9
  rw [po_isT_if hC]
  show AW G mX6_requireType (d + 1) 1 6 Q 8 [(0, .ref (ad (0, 0))), (1, .int k)] [.int (if po_isT σ k then 1 else 0)] (cs_O ad S h) 0 0
  refine ax_if_ne (tgt := 21) dX6_requireType_8 (by decide) (fun z => absurd (by rw [hk]; decide) z) (fun _ => ?_)
  exact ax_throw rfl (thIOB (List.mem_of_getElem? (i := 14) rfl)) dX6_requireType_11 dX6_requireType_14 dX6_requireType_15 dX6_requireType_17 dX6_requireType_20 (by decide) (by decide) (by decide) (by rw [hQ]; exact ⟨rfl, rfl⟩)
set_option maxRecDepth 100000 in
set_option maxHeartbeats 4000000 in
theorem rq_propY (d : Nat) (S : cs_S) (h : ax_H) {k : Int32} (hk : ¬ (k < 1 ∨ 5 < k)) : AW G mX6_requireProperty d 0 0 (fun r h1 => r = .inl none ∧ h1 = cs_O ad S h) 0 [(0, .ref (ad (0, 0))), (1, .int k)] [] (cs_O ad S h) 0 0 := by
  have hk1 : ¬ k < 1 := fun z => hk (Or.inl z)
  have hk2 : k ≤ 5 := by
    have hk2 : ¬ 5 < k := fun z => hk (Or.inr z)
    rw [Int32.lt_iff_toInt_lt] at hk2
    rw [Int32.le_iff_toInt_le]; omega
  refine ax_iload_n dX6_requireProperty_0 rfl ?_
  refine ax_iconst (v := 1) dX6_requireProperty_1 (by decide) ?_
  refine ax_icmp_lt (tgt := 10) dX6_requireProperty_2 (by decide) (fun z => absurd z hk1) (fun _ => ?_)
  refine ax_iload_n dX6_requireProperty_5 rfl ?_
  refine ax_iconst (v := 5) dX6_requireProperty_6 (by decide) ?_
  refine ax_icmp_le (tgt := 20) dX6_requireProperty_7 (by decide) (fun _ => ?_) (fun z => absurd hk2 z)
  exact ax_vret (st := []) dX6_requireProperty_20 rfl ⟨rfl, rfl⟩
set_option maxRecDepth 100000 in
set_option maxHeartbeats 4000000 in
theorem rq_propN (d : Nat) (S : cs_S) (h : ax_H) {k : Int32} (hk : k < 1 ∨ 5 < k) : AW G mX6_requireProperty d 1 6 (fun r h1 => r = .inr "java/lang/IllegalArgumentException" ∧ h1 = cs_O ad S h) 0 [(0, .ref (ad (0, 0))), (1, .int k)] [] (cs_O ad S h) 0 0 := by
  refine ax_iload_n dX6_requireProperty_0 rfl ?_
  refine ax_iconst (v := 1) dX6_requireProperty_1 (by decide) ?_
  refine ax_icmp_lt (tgt := 10) dX6_requireProperty_2 (by decide) (fun c1 => ?_) (fun c1 => ?_)
  · exact ax_throw rfl (thIAE (List.mem_of_getElem? (i := 15) rfl)) dX6_requireProperty_10 dX6_requireProperty_13 dX6_requireProperty_14 dX6_requireProperty_16 dX6_requireProperty_19 (by decide) (by decide) (by decide) ⟨rfl, rfl⟩
  · refine ax_iload_n dX6_requireProperty_5 rfl ?_
    refine ax_iconst (v := 5) dX6_requireProperty_6 (by decide) ?_
    refine ax_icmp_le (tgt := 20) dX6_requireProperty_7 (by decide) (fun c2 => ?_) (fun c2 => ?_)
    · exfalso
      rcases hk with z | z
      · exact c1 z
      · rw [Int32.lt_iff_toInt_lt] at z; rw [Int32.le_iff_toInt_le] at c2; omega
    · exact ax_throw rfl (thIAE (List.mem_of_getElem? (i := 15) rfl)) dX6_requireProperty_10 dX6_requireProperty_13 dX6_requireProperty_14 dX6_requireProperty_16 dX6_requireProperty_19 (by decide) (by decide) (by decide) ⟨rfl, rfl⟩
set_option maxRecDepth 100000 in
set_option maxHeartbeats 4000000 in
theorem rq_sizeY (d : Nat) (S : cs_S) (h : ax_H) {k : Int32} (hk : ¬ (k < 1 ∨ 8 < k)) : AW G mX6_requireSize d 0 0 (fun r h1 => r = .inl none ∧ h1 = cs_O ad S h) 0 [(0, .ref (ad (0, 0))), (1, .int k)] [] (cs_O ad S h) 0 0 := by
  have hk1 : ¬ k < 1 := fun z => hk (Or.inl z)
  have hk2 : k ≤ 8 := by
    have hk2 : ¬ 8 < k := fun z => hk (Or.inr z)
    rw [Int32.lt_iff_toInt_lt] at hk2
    rw [Int32.le_iff_toInt_le]; omega
  refine ax_iload_n dX6_requireSize_0 rfl ?_
  refine ax_iconst (v := 1) dX6_requireSize_1 (by decide) ?_
  refine ax_icmp_lt (tgt := 11) dX6_requireSize_2 (by decide) (fun z => absurd z hk1) (fun _ => ?_)
  refine ax_iload_n dX6_requireSize_5 rfl ?_
  refine ax_bipush (v := 8) dX6_requireSize_6 (by decide) ?_
  refine ax_icmp_le (tgt := 21) dX6_requireSize_8 (by decide) (fun _ => ?_) (fun z => absurd hk2 z)
  exact ax_vret (st := []) dX6_requireSize_21 rfl ⟨rfl, rfl⟩
set_option maxRecDepth 100000 in
set_option maxHeartbeats 4000000 in
theorem rq_sizeN (d : Nat) (S : cs_S) (h : ax_H) {k : Int32} (hk : k < 1 ∨ 8 < k) : AW G mX6_requireSize d 1 6 (fun r h1 => r = .inr "java/lang/IllegalArgumentException" ∧ h1 = cs_O ad S h) 0 [(0, .ref (ad (0, 0))), (1, .int k)] [] (cs_O ad S h) 0 0 := by
  refine ax_iload_n dX6_requireSize_0 rfl ?_
  refine ax_iconst (v := 1) dX6_requireSize_1 (by decide) ?_
  refine ax_icmp_lt (tgt := 11) dX6_requireSize_2 (by decide) (fun c1 => ?_) (fun c1 => ?_)
  · exact ax_throw rfl (thIAE (List.mem_of_getElem? (i := 16) rfl)) dX6_requireSize_11 dX6_requireSize_14 dX6_requireSize_15 dX6_requireSize_17 dX6_requireSize_20 (by decide) (by decide) (by decide) ⟨rfl, rfl⟩
  · refine ax_iload_n dX6_requireSize_5 rfl ?_
    refine ax_bipush (v := 8) dX6_requireSize_6 (by decide) ?_
    refine ax_icmp_le (tgt := 21) dX6_requireSize_8 (by decide) (fun c2 => ?_) (fun c2 => ?_)
    · exfalso
      rcases hk with z | z
      · exact c1 z
      · rw [Int32.lt_iff_toInt_lt] at z; rw [Int32.le_iff_toInt_le] at c2; omega
    · exact ax_throw rfl (thIAE (List.mem_of_getElem? (i := 16) rfl)) dX6_requireSize_11 dX6_requireSize_14 dX6_requireSize_15 dX6_requireSize_17 dX6_requireSize_20 (by decide) (by decide) (by decide) ⟨rfl, rfl⟩
set_option maxRecDepth 100000 in
set_option maxHeartbeats 4000000 in
theorem rq_knownY (hi : cs_inj ad) (d : Nat) (S : cs_S) (h : ax_H) {σ : sp_St} (hC : CI σ S) {k : Int32} (hk : ¬ nI (po_H σ) < k) {Q : ax_P} (hq : ∀ S', CI σ S' → st_fin σ.1 (sp_tab σ.1) S' → Q (.inl none) (cs_O ad S' h)) : AW G mX6_requireKnown (d + 14) 0 0 Q 0 [(0, .ref (ad (0, 0))), (1, .int k)] [] (cs_O ad S h) 0 0 := by
  have hk2 : k ≤ nI (po_H σ) := by
    rw [Int32.lt_iff_toInt_lt] at hk
    rw [Int32.le_iff_toInt_le]; omega
  refine ax_aload_n dX6_requireKnown_0 rfl ?_
  refine ax_get (v := .ref (ad (0, 6))) dX6_requireKnown_1 fkX6_21 (cs_get hi (cs_k0 (by decide))) rfl ?_
  refine ax_callV (b := (ad (0, 6))) (av := []) (rest := []) (mc' := 0) (ms' := 0) dX6_requireKnown_4 rfl lkX6_96 (cs_get hi (cs_k0 (by decide))) rfl (Nat.le_of_ble_eq_true rfl) (Nat.le_of_ble_eq_true rfl) (by decide) (by decide) (ch_ref hi d h S hC (Q := fun r h1 => r = .inl none ∧ ∃ S', h1 = cs_O ad S' h ∧ CI σ S' ∧ st_fin σ.1 (sp_tab σ.1) S') (fun S' a b => ⟨rfl, S', rfl, a, b⟩)) (fun E9 h9 q9 => by cases q9.1) (fun v9 h9 q9 => ?_)
  obtain ⟨e9, S1, rfl, o1, o2⟩ := q9
  cases e9
  show AW G mX6_requireKnown (d + 14) 0 0 Q 7 [(0, .ref (ad (0, 0))), (1, .int k)] [] (cs_O ad S1 h) 0 0
  refine ax_iload_n dX6_requireKnown_7 rfl ?_
  refine ax_aload_n dX6_requireKnown_8 rfl ?_
  refine ax_get (v := .ref (ad (0, 6))) dX6_requireKnown_9 fkX6_21 (cs_get hi (cs_k0 (by decide))) rfl ?_
  refine ax_get (v := .int (nI (po_H σ))) dX6_requireKnown_12 fkX6_99 (cs_get hi (cs_k0 (by decide))) (congrArg (fun z => some (Value.int z)) (o2.2.2.2.2.2.2.2.2.1)) ?_
  refine ax_icmp_le (tgt := 28) dX6_requireKnown_15 (by decide) (fun _ => ?_) (fun z => absurd hk2 z)
  exact ax_vret (st := []) dX6_requireKnown_28 rfl (hq S1 o1 o2)
set_option maxRecDepth 100000 in
set_option maxHeartbeats 4000000 in
theorem rq_knownN (hi : cs_inj ad) (d : Nat) (S : cs_S) (h : ax_H) {σ : sp_St} (hC : CI σ S) {k : Int32} (hk : nI (po_H σ) < k) {Q : ax_P} (hq : ∀ S', CI σ S' → Q (.inr "java/lang/IllegalStateException") (cs_O ad S' h)) : AW G mX6_requireKnown (d + 14) 1 6 Q 0 [(0, .ref (ad (0, 0))), (1, .int k)] [] (cs_O ad S h) 0 0 := by
  have hk2 : ¬ k ≤ nI (po_H σ) := by
    rw [Int32.lt_iff_toInt_lt] at hk
    rw [Int32.le_iff_toInt_le]; omega
  refine ax_aload_n dX6_requireKnown_0 rfl ?_
  refine ax_get (v := .ref (ad (0, 6))) dX6_requireKnown_1 fkX6_21 (cs_get hi (cs_k0 (by decide))) rfl ?_
  refine ax_callV (b := (ad (0, 6))) (av := []) (rest := []) (mc' := 0) (ms' := 0) dX6_requireKnown_4 rfl lkX6_96 (cs_get hi (cs_k0 (by decide))) rfl (Nat.le_of_ble_eq_true rfl) (Nat.le_of_ble_eq_true rfl) (by decide) (by decide) (ch_ref hi d h S hC (Q := fun r h1 => r = .inl none ∧ ∃ S', h1 = cs_O ad S' h ∧ CI σ S' ∧ st_fin σ.1 (sp_tab σ.1) S') (fun S' a b => ⟨rfl, S', rfl, a, b⟩)) (fun E9 h9 q9 => by cases q9.1) (fun v9 h9 q9 => ?_)
  obtain ⟨e9, S1, rfl, o1, o2⟩ := q9
  cases e9
  show AW G mX6_requireKnown (d + 14) 1 6 Q 7 [(0, .ref (ad (0, 0))), (1, .int k)] [] (cs_O ad S1 h) 0 0
  refine ax_iload_n dX6_requireKnown_7 rfl ?_
  refine ax_aload_n dX6_requireKnown_8 rfl ?_
  refine ax_get (v := .ref (ad (0, 6))) dX6_requireKnown_9 fkX6_21 (cs_get hi (cs_k0 (by decide))) rfl ?_
  refine ax_get (v := .int (nI (po_H σ))) dX6_requireKnown_12 fkX6_99 (cs_get hi (cs_k0 (by decide))) (congrArg (fun z => some (Value.int z)) (o2.2.2.2.2.2.2.2.2.1)) ?_
  refine ax_icmp_le (tgt := 28) dX6_requireKnown_15 (by decide) (fun z => absurd z hk2) (fun _ => ?_)
  exact ax_throw rfl (thISE (List.mem_of_getElem? (i := 17) rfl)) dX6_requireKnown_18 dX6_requireKnown_21 dX6_requireKnown_22 dX6_requireKnown_24 dX6_requireKnown_27 (by decide) (by decide) (by decide) (hq S1 o1)
set_option maxRecDepth 100000 in
set_option maxHeartbeats 4000000 in
theorem ch_chosenY (hi : cs_inj ad) (d : Nat) (S : cs_S) (h : ax_H) {v : Nat} (hs : S.2.2.2.2.2.2 = some v) : AW G mX6_chosen d 0 0 (fun r h1 => r = .inl (some (.ref (ad (1, v)))) ∧ h1 = cs_O ad S h) 0 [(0, .ref (ad (0, 0)))] [] (cs_O ad S h) 0 0 := by
  have hs2 : (cs_fix ad S 0) = .inr (6, [.ref (ad (0, 1)), .ref (ad (0, 6)), .ref (ad (0, 12)), .ref (ad (0, 15)), .ref (ad (0, 17)), .ref (ad (1, v))]) := by
    show Sum.inr (6, [.ref (ad (0, 1)), .ref (ad (0, 6)), .ref (ad (0, 12)), .ref (ad (0, 15)), .ref (ad (0, 17)), va_rf (cs_rf ad S.2.2.2.2.2.2)]) = _
    rw [hs]; rfl
  have hg : cs_O ad S h (ad (0, 0)) = some (.inr (6, [.ref (ad (0, 1)), .ref (ad (0, 6)), .ref (ad (0, 12)), .ref (ad (0, 15)), .ref (ad (0, 17)), .ref (ad (1, v))])) := (cs_get hi (cs_k0 (by decide))).trans (congrArg some hs2)
  refine ax_aload_n dX6_chosen_0 rfl ?_
  refine ax_get (v := .ref (ad (1, v))) dX6_chosen_1 fkX6_46 hg rfl ?_
  refine ax_ifnonnull (tgt := 17) dX6_chosen_4 (by decide) ?_
  refine ax_aload_n dX6_chosen_17 rfl ?_
  refine ax_get (v := .ref (ad (1, v))) dX6_chosen_18 fkX6_46 hg rfl ?_
  exact ax_aret (st := []) dX6_chosen_21 rfl (Or.inl ⟨_, rfl⟩) (Or.inr ⟨_, rfl⟩) ⟨rfl, rfl⟩

set_option maxRecDepth 100000 in
set_option maxHeartbeats 4000000 in
theorem ch_chosenN (hi : cs_inj ad) (d : Nat) (S : cs_S) (h : ax_H) (hs : S.2.2.2.2.2.2 = none) : AW G mX6_chosen d 1 6 (fun r h1 => r = .inr "java/lang/IllegalStateException" ∧ h1 = cs_O ad S h) 0 [(0, .ref (ad (0, 0)))] [] (cs_O ad S h) 0 0 := by
  have hs2 : (cs_fix ad S 0) = .inr (6, [.ref (ad (0, 1)), .ref (ad (0, 6)), .ref (ad (0, 12)), .ref (ad (0, 15)), .ref (ad (0, 17)), .null]) := by
    show Sum.inr (6, [.ref (ad (0, 1)), .ref (ad (0, 6)), .ref (ad (0, 12)), .ref (ad (0, 15)), .ref (ad (0, 17)), va_rf (cs_rf ad S.2.2.2.2.2.2)]) = _
    rw [hs]; rfl
  have hg : cs_O ad S h (ad (0, 0)) = some (.inr (6, [.ref (ad (0, 1)), .ref (ad (0, 6)), .ref (ad (0, 12)), .ref (ad (0, 15)), .ref (ad (0, 17)), .null])) := (cs_get hi (cs_k0 (by decide))).trans (congrArg some hs2)
  refine ax_aload_n dX6_chosen_0 rfl ?_
  refine ax_get (v := .null) dX6_chosen_1 fkX6_46 hg rfl ?_
  refine ax_ifnonnullN dX6_chosen_4 ?_
  exact ax_throw rfl (thISE (List.mem_of_getElem? (i := 13) rfl)) dX6_chosen_7 dX6_chosen_10 dX6_chosen_11 dX6_chosen_13 dX6_chosen_16 (by decide) (by decide) (by decide) ⟨rfl, rfl⟩
set_option maxRecDepth 100000 in
set_option maxHeartbeats 4000000 in
theorem ch_forget (hi : cs_inj ad) (d : Nat) (S : cs_S) (h : ax_H) : AW G mX6_forgetValues d 0 0 (fun r h1 => r = .inl none ∧ h1 = cs_O ad (cs_setL (cs_setS S 7 0) none) h) 0 [(0, .ref (ad (0, 0)))] [] (cs_O ad S h) 0 0 := by
  refine ax_aload_n dX6_forgetValues_0 rfl ?_
  refine ax_get (v := .ref (ad (0, 6))) dX6_forgetValues_1 fkX6_21 (cs_get hi (cs_k0 (by decide))) rfl ?_
  refine ax_iconst (v := 0) dX6_forgetValues_4 (by decide) ?_
  refine ax_put dX6_forgetValues_5 fpX6_219 (cs_get hi (cs_k0 (by decide))) rfl rfl (Nat.le_of_ble_eq_true rfl) ?_
  refine ax_eqh (cs_ps7 hi) ?_
  refine ax_aload_n dX6_forgetValues_8 rfl ?_
  refine ax_null dX6_forgetValues_9 ?_
  refine ax_put dX6_forgetValues_10 fpX6_46 (cs_get hi (cs_k0 (by decide))) rfl rfl (Nat.le_of_ble_eq_true rfl) ?_
  refine ax_eqh (cs_pl hi (o := none)) ?_
  exact ax_vret (st := []) dX6_forgetValues_13 rfl ⟨rfl, rfl⟩
end PRI
