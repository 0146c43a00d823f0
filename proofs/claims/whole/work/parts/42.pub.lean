/-! ===== the class's public methods ===== -/
def pb_nm (l : List String) (k : Nat) : String := l.getD (k - 1) ""
def pb_Q (ad : cs_K → Nat) (h : ax_H) (nm : Nat → String) (o : po_R) : ax_P := fun r h1 => r = po_oc nm o.1 ∧ ∃ S', h1 = cs_O ad S' h ∧ CI o.2 S'
theorem CI_forget {σ σ' : sp_St} {S S' : cs_S} (hC : CI σ S) (hw : sp_wg σ'.1) (hg : cs_g S' σ'.1) (ha : S'.2.1 13 = S.2.1 13) (hb : S'.2.1 10 = S.2.1 10) (hR : S'.2.2.1 = S.2.2.1) (h10 : S'.1 10 = S.1 10) (h7 : S'.1 7 = 0) (hl : S'.2.2.2.2.2.2 = none) (ht : σ'.2 = (σ.2.1, none)) : CI σ' S' := by
  obtain ⟨c1, c2, c3, c4, c5, c6, c7, c8⟩ := hC
  refine ⟨hw, hg, ?_, ?_, ?_, Or.inl h7, by rw [hl, ht], fun v z => by rw [ht] at z; cases z⟩
  · unfold st_fix; rw [hR]; exact c3
  · rw [ht]; refine ⟨h10.trans c4.1, c4.2.1, ?_, c4.2.2.2⟩; rw [ha]; exact c4.2.2.1
  · rw [hb]; exact c5
section PUB
variable {G : ax_G} {ad : cs_K → Nat}
theorem i_not_le {a b : Int32} (h : ¬ a < b) : b ≤ a := by rw [Int32.lt_iff_toInt_lt] at h; rw [Int32.le_iff_toInt_le]; omega
theorem i_not_lt {a b : Int32} (h : ¬ a ≤ b) : b < a := by rw [Int32.le_iff_toInt_le] at h; rw [Int32.lt_iff_toInt_lt]; omega
theorem i_lt_not {a b : Int32} (h : a < b) : ¬ b ≤ a := by rw [Int32.lt_iff_toInt_lt] at h; rw [Int32.le_iff_toInt_le]; omega
theorem i_le_not {a b : Int32} (h : a ≤ b) : ¬ b < a := by rw [Int32.le_iff_toInt_le] at h; rw [Int32.lt_iff_toInt_lt]; omega
theorem i_lt_le {a b c : Int32} (h : a < b) (h2 : b ≤ c) : a < c := by rw [Int32.lt_iff_toInt_lt] at h; rw [Int32.le_iff_toInt_le] at h2; rw [Int32.lt_iff_toInt_lt]; omega
theorem i_le_lt {a b c : Int32} (h : a ≤ b) (h2 : b < c) : a < c := by rw [Int32.le_iff_toInt_le] at h; rw [Int32.lt_iff_toInt_lt] at h2; rw [Int32.lt_iff_toInt_lt]; omega
theorem i_le_le {a b c : Int32} (h : a ≤ b) (h2 : b ≤ c) : a ≤ c := by rw [Int32.le_iff_toInt_le] at h h2; rw [Int32.le_iff_toInt_le]; omega
theorem i_rng {s : Int32} (h : ¬ (s < 1 ∨ 8 < s)) : ∃ z, s = nI z ∧ 1 ≤ z ∧ z ≤ 8 := by
  have h0 : ¬ s < 1 := fun z => h (Or.inl z)
  have h8 : ¬ 8 < s := fun z => h (Or.inr z)
  rw [Int32.lt_iff_toInt_lt] at h0 h8
  have e1 : (1 : Int32).toInt = 1 := by decide
  have e8 : (8 : Int32).toInt = 8 := by decide
  obtain ⟨j, hj, rfl⟩ := nI_of (x := s) (by rw [Int32.lt_iff_toInt_lt, show (0 : Int32).toInt = 0 by decide]; omega)
  rw [nI_toInt hj] at h0 h8
  exact ⟨j, rfl, by omega, by omega⟩
theorem i_prp {s : Int32} (h : ¬ (s < 1 ∨ 5 < s)) : ∃ z, s = nI z ∧ 1 ≤ z ∧ z ≤ 5 := by
  have h0 : ¬ s < 1 := fun z => h (Or.inl z)
  have h8 : ¬ 5 < s := fun z => h (Or.inr z)
  rw [Int32.lt_iff_toInt_lt] at h0 h8
  have e1 : (1 : Int32).toInt = 1 := by decide
  have e8 : (5 : Int32).toInt = 5 := by decide
  obtain ⟨j, hj, rfl⟩ := nI_of (x := s) (by rw [Int32.lt_iff_toInt_lt, show (0 : Int32).toInt = 0 by decide]; omega)
  rw [nI_toInt hj] at h0 h8
  exact ⟨j, rfl, by omega, by omega⟩

set_option maxRecDepth 100000 in
set_option maxHeartbeats 4000000 in
theorem pb_typeCount (hi : cs_inj ad) (d : Nat) (S : cs_S) (h : ax_H) {σ : sp_St} (hC : CI σ S)  : AW G mX6_typeCount (d + 16) 1 6 (fun r h1 => r = .inl (some (.int (nI σ.1.2.2.1))) ∧ ∃ S', h1 = cs_O ad S' h ∧ CI σ S') 0 [(0, .ref (ad (0, 0)))] [] (cs_O ad S h) 0 0 := by
  refine ax_aload_n dX6_typeCount_0 rfl ?_
  refine ax_get (v := .ref (ad (0, 1))) dX6_typeCount_1 fkX6_10 (cs_get hi (cs_k0 (by decide))) rfl ?_
  refine ax_get (v := .int (S.1 2)) dX6_typeCount_4 fkX6_67 (cs_get hi (cs_k0 (by decide))) rfl ?_
  exact ax_iret (st := []) dX6_typeCount_7 rfl rfl ⟨congrArg (fun z => (Sum.inl (some (Value.int z)) : Option Value ⊕ String)) hC.2.1.2.2.1, S, rfl, hC⟩
set_option maxRecDepth 100000 in
set_option maxHeartbeats 4000000 in
theorem pb_horizon (hi : cs_inj ad) (d : Nat) (S : cs_S) (h : ax_H) {σ : sp_St} (hC : CI σ S)  : AW G mX6_horizon (d + 16) 1 6 (fun r h1 => r = .inl (some (.int (nI (po_H σ)))) ∧ ∃ S', h1 = cs_O ad S' h ∧ CI σ S') 0 [(0, .ref (ad (0, 0)))] [] (cs_O ad S h) 0 0 := by
  refine ax_aload_n dX6_horizon_0 rfl ?_
  refine ax_get (v := .ref (ad (0, 6))) dX6_horizon_1 fkX6_21 (cs_get hi (cs_k0 (by decide))) rfl ?_
  refine ax_callV (b := (ad (0, 6))) (av := []) (rest := []) (mc' := 0) (ms' := 0) dX6_horizon_4 rfl lkX6_96 (cs_get hi (cs_k0 (by decide))) rfl (Nat.le_of_ble_eq_true rfl) (Nat.le_of_ble_eq_true rfl) (by decide) (by decide) (ch_ref hi _ h S hC (Q := fun r h1 => r = .inl none ∧ ∃ S', h1 = cs_O ad S' h ∧ CI σ S' ∧ st_fin σ.1 (sp_tab σ.1) S') (fun S' a b => ⟨rfl, S', rfl, a, b⟩)) (fun E9 h9 q9 => by cases q9.1) (fun v9 h9 q9 => ?_)
  obtain ⟨e9, S1, rfl, o1, o2⟩ := q9
  cases e9
  show AW G mX6_horizon (d + 16) 1 6 _ 7 [(0, .ref (ad (0, 0)))] [] (cs_O ad S1 h) 0 0
  refine ax_aload_n dX6_horizon_7 rfl ?_
  refine ax_get (v := .ref (ad (0, 6))) dX6_horizon_8 fkX6_21 (cs_get hi (cs_k0 (by decide))) rfl ?_
  refine ax_get (v := .int (S1.1 6)) dX6_horizon_11 fkX6_99 (cs_get hi (cs_k0 (by decide))) rfl ?_
  exact ax_iret (st := []) dX6_horizon_14 rfl rfl ⟨congrArg (fun z => (Sum.inl (some (Value.int z)) : Option Value ⊕ String)) o2.2.2.2.2.2.2.2.2.1, S1, rfl, o1⟩
set_option maxRecDepth 100000 in
set_option maxHeartbeats 4000000 in
theorem pb_setRange (hi : cs_inj ad) (d : Nat) (S : cs_S) (h : ax_H) {σ : sp_St} (hC : CI σ S) (a : Int32) (b : Int32) : AW G mX6_setRange (d + 16) 1 6 (pb_Q ad h (pb_nm ["java/lang/IllegalArgumentException"]) (po_setRange σ a b)) 0 [(0, .ref (ad (0, 0))), (1, .int a), (2, .int b)] [] (cs_O ad S h) 0 0 := by
  by_cases h1 : a < 0
  · rw [show po_setRange σ a b = ((1, 0), σ) from if_pos (Or.inl h1)]
    refine ax_iload_n dX6_setRange_0 rfl ?_
    refine ax_if_lt (tgt := 14) dX6_setRange_1 (by decide) (fun _ => ?_) (fun z => absurd h1 z)
    exact ax_throw rfl (thIAE (List.mem_of_getElem? (i := 0) rfl)) dX6_setRange_14 dX6_setRange_17 dX6_setRange_18 dX6_setRange_20 dX6_setRange_23 (by decide) (by decide) (by decide) ⟨rfl, S, rfl, hC⟩
  by_cases h2 : 5 < b
  · rw [show po_setRange σ a b = ((1, 0), σ) from if_pos (Or.inr (Or.inl h2))]
    refine ax_iload_n dX6_setRange_0 rfl ?_
    refine ax_if_lt (tgt := 14) dX6_setRange_1 (by decide) (fun z => absurd z h1) (fun _ => ?_)
    refine ax_iload_n dX6_setRange_4 rfl ?_
    refine ax_iconst (v := 5) dX6_setRange_5 (by decide) ?_
    refine ax_icmp_gt (tgt := 14) dX6_setRange_6 (by decide) (fun _ => ?_) (fun z => absurd h2 z)
    exact ax_throw rfl (thIAE (List.mem_of_getElem? (i := 0) rfl)) dX6_setRange_14 dX6_setRange_17 dX6_setRange_18 dX6_setRange_20 dX6_setRange_23 (by decide) (by decide) (by decide) ⟨rfl, S, rfl, hC⟩
  by_cases h3 : b < a
  · rw [show po_setRange σ a b = ((1, 0), σ) from if_pos (Or.inr (Or.inr h3))]
    refine ax_iload_n dX6_setRange_0 rfl ?_
    refine ax_if_lt (tgt := 14) dX6_setRange_1 (by decide) (fun z => absurd z h1) (fun _ => ?_)
    refine ax_iload_n dX6_setRange_4 rfl ?_
    refine ax_iconst (v := 5) dX6_setRange_5 (by decide) ?_
    refine ax_icmp_gt (tgt := 14) dX6_setRange_6 (by decide) (fun z => absurd z h2) (fun _ => ?_)
    refine ax_iload_n dX6_setRange_9 rfl ?_
    refine ax_iload_n dX6_setRange_10 rfl ?_
    refine ax_icmp_le (tgt := 24) dX6_setRange_11 (by decide) (fun z => absurd z (i_lt_not h3)) (fun _ => ?_)
    exact ax_throw rfl (thIAE (List.mem_of_getElem? (i := 0) rfl)) dX6_setRange_14 dX6_setRange_17 dX6_setRange_18 dX6_setRange_20 dX6_setRange_23 (by decide) (by decide) (by decide) ⟨rfl, S, rfl, hC⟩
  have hab : a ≤ b := i_not_le h3
  have hb5 : b ≤ 5 := i_not_le h2
  obtain ⟨n, hn, rfl⟩ := nI_of h1
  obtain ⟨m, hm, rfl⟩ := nI_of2 (x := b) (M := 5) (n := 5) (by decide) (i_le_not (i_le_le (i_not_le h1) hab)) hb5
  have hnm : n ≤ m := (nI_leI hn (by omega)).mp hab
  have hw := hC.1
  have e0 : po_setRange σ (nI n) (nI m) = ((0, if nI n = S.1 0 ∧ nI m = S.1 1 then 0 else 1), ((n, m, σ.1.2.2), σ.2.1, none)) := by
    unfold po_setRange
    rw [if_neg (by rintro (z | z | z); exact h1 z; exact h2 z; exact h3 z), nI_clamp hn, nI_clamp (by omega), hC.2.1.1, hC.2.1.2.1]
  rw [e0]
  have hFin : CI ((n, m, σ.1.2.2), σ.2.1, none) (cs_setL (cs_setS (cs_setS (cs_setS S 0 (nI n)) 1 (nI m)) 7 0) none) := by
    refine CI_forget hC ⟨hnm, hm, hw.2.2⟩ ?_ rfl rfl rfl rfl rfl rfl rfl
    exact ⟨rfl, rfl, hC.2.1.2.2⟩
  by_cases c1 : nI n = S.1 0
  · by_cases c2 : nI m = S.1 1
    · rw [if_pos ⟨c1, c2⟩]
      refine ax_iload_n dX6_setRange_0 rfl ?_
      refine ax_if_lt (tgt := 14) dX6_setRange_1 (by decide) (fun z => absurd z h1) (fun _ => ?_)
      refine ax_iload_n dX6_setRange_4 rfl ?_
      refine ax_iconst (v := 5) dX6_setRange_5 (by decide) ?_
      refine ax_icmp_gt (tgt := 14) dX6_setRange_6 (by decide) (fun z => absurd z h2) (fun _ => ?_)
      refine ax_iload_n dX6_setRange_9 rfl ?_
      refine ax_iload_n dX6_setRange_10 rfl ?_
      refine ax_icmp_le (tgt := 24) dX6_setRange_11 (by decide) (fun _ => ?_) (fun z => absurd hab z)
      refine ax_iload_n dX6_setRange_24 rfl ?_
      refine ax_aload_n dX6_setRange_25 rfl ?_
      refine ax_get (v := .ref (ad (0, 1))) dX6_setRange_26 fkX6_10 (cs_get hi (cs_k0 (by decide))) rfl ?_
      refine ax_get (v := .int (S.1 0)) dX6_setRange_29 fkX6_57 (cs_get hi (cs_k0 (by decide))) rfl ?_
      refine ax_icmp_ne (tgt := 46) dX6_setRange_32 (by decide) (fun z => absurd c1 z) (fun _ => ?_)
      refine ax_iload_n dX6_setRange_35 rfl ?_
      refine ax_aload_n dX6_setRange_36 rfl ?_
      refine ax_get (v := .ref (ad (0, 1))) dX6_setRange_37 fkX6_10 (cs_get hi (cs_k0 (by decide))) rfl ?_
      refine ax_get (v := .int (S.1 1)) dX6_setRange_40 fkX6_61 (cs_get hi (cs_k0 (by decide))) rfl ?_
      refine ax_icmp_eq (tgt := 50) dX6_setRange_43 (by decide) (fun _ => ?_) (fun z => absurd c2 z)
      refine ax_iconst (v := 0) dX6_setRange_50 (by decide) ?_
      refine ax_istore_n dX6_setRange_51 (by decide) ?_
      refine ax_sub (lv' := [(0, .ref (ad (0, 0))), (1, .int (nI n)), (2, .int (nI m)), (3, .int 0)]) (fun _ z => z) ?_
      refine ax_aload_n dX6_setRange_52 rfl ?_
      refine ax_get (v := .ref (ad (0, 1))) dX6_setRange_53 fkX6_10 (cs_get hi (cs_k0 (by decide))) rfl ?_
      refine ax_iload_n dX6_setRange_56 rfl ?_
      refine ax_put dX6_setRange_57 fpX6_57 (cs_get hi (cs_k0 (by decide))) rfl rfl (Nat.le_of_ble_eq_true rfl) ?_
      refine ax_eqh (cs_ps0 hi) ?_
      refine ax_aload_n dX6_setRange_60 rfl ?_
      refine ax_get (v := .ref (ad (0, 1))) dX6_setRange_61 fkX6_10 (cs_get hi (cs_k0 (by decide))) rfl ?_
      refine ax_iload_n dX6_setRange_64 rfl ?_
      refine ax_put dX6_setRange_65 fpX6_61 (cs_get hi (cs_k0 (by decide))) rfl rfl (Nat.le_of_ble_eq_true rfl) ?_
      refine ax_eqh (cs_ps1 hi) ?_
      refine ax_aload_n dX6_setRange_68 rfl ?_
      refine ax_callV (b := (ad (0, 0))) (av := []) (rest := []) (mc' := 0) (ms' := 0) dX6_setRange_69 rfl lkX6_64 (cs_get hi (cs_k0 (by decide))) rfl (Nat.le_of_ble_eq_true rfl) (Nat.le_of_ble_eq_true rfl) (by decide) (by decide) (ch_forget hi _ (cs_setS (cs_setS S 0 (nI n)) 1 (nI m)) h) (fun E9 h9 q9 => by cases q9.1) (fun v9 h9 q9 => ?_)
      obtain ⟨e9, rfl⟩ := q9
      cases e9
      show AW G mX6_setRange (d + 16) 1 6 _ 72 [(0, .ref (ad (0, 0))), (1, .int (nI n)), (2, .int (nI m)), (3, .int 0)] [] (cs_O ad (cs_setL (cs_setS (cs_setS (cs_setS S 0 (nI n)) 1 (nI m)) 7 0) none) h) 0 0
      refine ax_iload_n dX6_setRange_72 rfl ?_
      refine ax_iret (st := []) dX6_setRange_73 rfl rfl ⟨rfl, _, rfl, ?_⟩
      exact hFin
    · rw [if_neg (fun z => c2 z.2)]
      refine ax_iload_n dX6_setRange_0 rfl ?_
      refine ax_if_lt (tgt := 14) dX6_setRange_1 (by decide) (fun z => absurd z h1) (fun _ => ?_)
      refine ax_iload_n dX6_setRange_4 rfl ?_
      refine ax_iconst (v := 5) dX6_setRange_5 (by decide) ?_
      refine ax_icmp_gt (tgt := 14) dX6_setRange_6 (by decide) (fun z => absurd z h2) (fun _ => ?_)
      refine ax_iload_n dX6_setRange_9 rfl ?_
      refine ax_iload_n dX6_setRange_10 rfl ?_
      refine ax_icmp_le (tgt := 24) dX6_setRange_11 (by decide) (fun _ => ?_) (fun z => absurd hab z)
      refine ax_iload_n dX6_setRange_24 rfl ?_
      refine ax_aload_n dX6_setRange_25 rfl ?_
      refine ax_get (v := .ref (ad (0, 1))) dX6_setRange_26 fkX6_10 (cs_get hi (cs_k0 (by decide))) rfl ?_
      refine ax_get (v := .int (S.1 0)) dX6_setRange_29 fkX6_57 (cs_get hi (cs_k0 (by decide))) rfl ?_
      refine ax_icmp_ne (tgt := 46) dX6_setRange_32 (by decide) (fun z => absurd c1 z) (fun _ => ?_)
      refine ax_iload_n dX6_setRange_35 rfl ?_
      refine ax_aload_n dX6_setRange_36 rfl ?_
      refine ax_get (v := .ref (ad (0, 1))) dX6_setRange_37 fkX6_10 (cs_get hi (cs_k0 (by decide))) rfl ?_
      refine ax_get (v := .int (S.1 1)) dX6_setRange_40 fkX6_61 (cs_get hi (cs_k0 (by decide))) rfl ?_
      refine ax_icmp_eq (tgt := 50) dX6_setRange_43 (by decide) (fun z => absurd z c2) (fun _ => ?_)
      refine ax_iconst (v := 1) dX6_setRange_46 (by decide) ?_
      refine ax_goto (tgt := 51) dX6_setRange_47 (by decide) ?_
      refine ax_istore_n dX6_setRange_51 (by decide) ?_
      refine ax_sub (lv' := [(0, .ref (ad (0, 0))), (1, .int (nI n)), (2, .int (nI m)), (3, .int 1)]) (fun _ z => z) ?_
      refine ax_aload_n dX6_setRange_52 rfl ?_
      refine ax_get (v := .ref (ad (0, 1))) dX6_setRange_53 fkX6_10 (cs_get hi (cs_k0 (by decide))) rfl ?_
      refine ax_iload_n dX6_setRange_56 rfl ?_
      refine ax_put dX6_setRange_57 fpX6_57 (cs_get hi (cs_k0 (by decide))) rfl rfl (Nat.le_of_ble_eq_true rfl) ?_
      refine ax_eqh (cs_ps0 hi) ?_
      refine ax_aload_n dX6_setRange_60 rfl ?_
      refine ax_get (v := .ref (ad (0, 1))) dX6_setRange_61 fkX6_10 (cs_get hi (cs_k0 (by decide))) rfl ?_
      refine ax_iload_n dX6_setRange_64 rfl ?_
      refine ax_put dX6_setRange_65 fpX6_61 (cs_get hi (cs_k0 (by decide))) rfl rfl (Nat.le_of_ble_eq_true rfl) ?_
      refine ax_eqh (cs_ps1 hi) ?_
      refine ax_aload_n dX6_setRange_68 rfl ?_
      refine ax_callV (b := (ad (0, 0))) (av := []) (rest := []) (mc' := 0) (ms' := 0) dX6_setRange_69 rfl lkX6_64 (cs_get hi (cs_k0 (by decide))) rfl (Nat.le_of_ble_eq_true rfl) (Nat.le_of_ble_eq_true rfl) (by decide) (by decide) (ch_forget hi _ (cs_setS (cs_setS S 0 (nI n)) 1 (nI m)) h) (fun E9 h9 q9 => by cases q9.1) (fun v9 h9 q9 => ?_)
      obtain ⟨e9, rfl⟩ := q9
      cases e9
      show AW G mX6_setRange (d + 16) 1 6 _ 72 [(0, .ref (ad (0, 0))), (1, .int (nI n)), (2, .int (nI m)), (3, .int 1)] [] (cs_O ad (cs_setL (cs_setS (cs_setS (cs_setS S 0 (nI n)) 1 (nI m)) 7 0) none) h) 0 0
      refine ax_iload_n dX6_setRange_72 rfl ?_
      refine ax_iret (st := []) dX6_setRange_73 rfl rfl ⟨rfl, _, rfl, ?_⟩
      exact hFin
  · rw [if_neg (fun z => c1 z.1)]
    refine ax_iload_n dX6_setRange_0 rfl ?_
    refine ax_if_lt (tgt := 14) dX6_setRange_1 (by decide) (fun z => absurd z h1) (fun _ => ?_)
    refine ax_iload_n dX6_setRange_4 rfl ?_
    refine ax_iconst (v := 5) dX6_setRange_5 (by decide) ?_
    refine ax_icmp_gt (tgt := 14) dX6_setRange_6 (by decide) (fun z => absurd z h2) (fun _ => ?_)
    refine ax_iload_n dX6_setRange_9 rfl ?_
    refine ax_iload_n dX6_setRange_10 rfl ?_
    refine ax_icmp_le (tgt := 24) dX6_setRange_11 (by decide) (fun _ => ?_) (fun z => absurd hab z)
    refine ax_iload_n dX6_setRange_24 rfl ?_
    refine ax_aload_n dX6_setRange_25 rfl ?_
    refine ax_get (v := .ref (ad (0, 1))) dX6_setRange_26 fkX6_10 (cs_get hi (cs_k0 (by decide))) rfl ?_
    refine ax_get (v := .int (S.1 0)) dX6_setRange_29 fkX6_57 (cs_get hi (cs_k0 (by decide))) rfl ?_
    refine ax_icmp_ne (tgt := 46) dX6_setRange_32 (by decide) (fun _ => ?_) (fun z => absurd z c1)
    refine ax_iconst (v := 1) dX6_setRange_46 (by decide) ?_
    refine ax_goto (tgt := 51) dX6_setRange_47 (by decide) ?_
    refine ax_istore_n dX6_setRange_51 (by decide) ?_
    refine ax_sub (lv' := [(0, .ref (ad (0, 0))), (1, .int (nI n)), (2, .int (nI m)), (3, .int 1)]) (fun _ z => z) ?_
    refine ax_aload_n dX6_setRange_52 rfl ?_
    refine ax_get (v := .ref (ad (0, 1))) dX6_setRange_53 fkX6_10 (cs_get hi (cs_k0 (by decide))) rfl ?_
    refine ax_iload_n dX6_setRange_56 rfl ?_
    refine ax_put dX6_setRange_57 fpX6_57 (cs_get hi (cs_k0 (by decide))) rfl rfl (Nat.le_of_ble_eq_true rfl) ?_
    refine ax_eqh (cs_ps0 hi) ?_
    refine ax_aload_n dX6_setRange_60 rfl ?_
    refine ax_get (v := .ref (ad (0, 1))) dX6_setRange_61 fkX6_10 (cs_get hi (cs_k0 (by decide))) rfl ?_
    refine ax_iload_n dX6_setRange_64 rfl ?_
    refine ax_put dX6_setRange_65 fpX6_61 (cs_get hi (cs_k0 (by decide))) rfl rfl (Nat.le_of_ble_eq_true rfl) ?_
    refine ax_eqh (cs_ps1 hi) ?_
    refine ax_aload_n dX6_setRange_68 rfl ?_
    refine ax_callV (b := (ad (0, 0))) (av := []) (rest := []) (mc' := 0) (ms' := 0) dX6_setRange_69 rfl lkX6_64 (cs_get hi (cs_k0 (by decide))) rfl (Nat.le_of_ble_eq_true rfl) (Nat.le_of_ble_eq_true rfl) (by decide) (by decide) (ch_forget hi _ (cs_setS (cs_setS S 0 (nI n)) 1 (nI m)) h) (fun E9 h9 q9 => by cases q9.1) (fun v9 h9 q9 => ?_)
    obtain ⟨e9, rfl⟩ := q9
    cases e9
    show AW G mX6_setRange (d + 16) 1 6 _ 72 [(0, .ref (ad (0, 0))), (1, .int (nI n)), (2, .int (nI m)), (3, .int 1)] [] (cs_O ad (cs_setL (cs_setS (cs_setS (cs_setS S 0 (nI n)) 1 (nI m)) 7 0) none) h) 0 0
    refine ax_iload_n dX6_setRange_72 rfl ?_
    refine ax_iret (st := []) dX6_setRange_73 rfl rfl ⟨rfl, _, rfl, ?_⟩
    exact hFin
set_option maxRecDepth 100000 in
set_option maxHeartbeats 4000000 in
theorem pb_addType (hi : cs_inj ad) (d : Nat) (S : cs_S) (h : ax_H) {σ : sp_St} (hC : CI σ S)  : AW G mX6_addType (d + 16) 1 6 (pb_Q ad h (pb_nm ["java/lang/IllegalStateException"]) (po_addType σ)) 0 [(0, .ref (ad (0, 0)))] [] (cs_O ad S h) 0 0 := by
  have hw := hC.1
  have h2 := hC.2.1.2.2.1
  by_cases h1 : σ.1.2.2.1 = 4
  · rw [show po_addType σ = ((1, 0), σ) from if_pos h1]
    refine ax_aload_n dX6_addType_0 rfl ?_
    refine ax_get (v := .ref (ad (0, 1))) dX6_addType_1 fkX6_10 (cs_get hi (cs_k0 (by decide))) rfl ?_
    refine ax_get (v := .int (S.1 2)) dX6_addType_4 fkX6_67 (cs_get hi (cs_k0 (by decide))) rfl ?_
    refine ax_iconst (v := 4) dX6_addType_7 (by decide) ?_
    refine ax_icmp_lt (tgt := 21) dX6_addType_8 (by decide) (fun z => absurd z (il_nlt 4 4 (Nat.le_refl _) (by rw [h2, h1]) rfl)) (fun _ => ?_)
    exact ax_throw rfl (thISE (List.mem_of_getElem? (i := 1) rfl)) dX6_addType_11 dX6_addType_14 dX6_addType_15 dX6_addType_17 dX6_addType_20 (by decide) (by decide) (by decide) ⟨rfl, S, rfl, hC⟩
  · have h4 := hw.2.2.1
    rw [show po_addType σ = _ from if_neg h1]
    have hFin : CI ((σ.1.1, σ.1.2.1, σ.1.2.2.1 + 1, σ.1.2.2.2), σ.2.1, none) (cs_setL (cs_setS (cs_setS S 2 (S.1 2 + 1)) 7 0) none) := by
      refine CI_forget hC ⟨hw.1, hw.2.1, by show σ.1.2.2.1 + 1 ≤ 4; omega, hw.2.2.2.1, fun q hq => ?_⟩ ?_ rfl rfl rfl rfl rfl rfl rfl
      · obtain ⟨w1, w2, w3, w4, w5, w6⟩ := hw.2.2.2.2 q hq
        refine ⟨by show q.1 < σ.1.2.2.1 + 1; omega, fun k hk => ?_, w3, w4, ?_, w6⟩
        · rcases w2 k hk with z | z
          · exact Or.inl (by show sp_par q k < σ.1.2.2.1 + 1; omega)
          · exact Or.inr z
        · intro z
          have z1 : q.2.1 < σ.1.2.2.1 + 1 := z.1
          have z2 : q.2.2.1 < σ.1.2.2.1 + 1 := z.2.1
          have z3 : q.2.2.2.1 < σ.1.2.2.1 + 1 := z.2.2
          have k0 : q.2.1 < σ.1.2.2.1 ∨ q.2.1 = 9 ∨ q.2.1 = 10 := w2 0 (by decide)
          have k1 : q.2.2.1 < σ.1.2.2.1 ∨ q.2.2.1 = 9 ∨ q.2.2.1 = 10 := w2 1 (by decide)
          have k2 : q.2.2.2.1 < σ.1.2.2.1 ∨ q.2.2.2.1 = 9 ∨ q.2.2.2.1 = 10 := w2 2 (by decide)
          exact w5 ⟨by omega, by omega, by omega⟩
      · refine ⟨hC.2.1.1, hC.2.1.2.1, ?_, hC.2.1.2.2.2⟩
        show S.1 2 + 1 = nI (σ.1.2.2.1 + 1)
        rw [h2, nI_1]
    refine ax_aload_n dX6_addType_0 rfl ?_
    refine ax_get (v := .ref (ad (0, 1))) dX6_addType_1 fkX6_10 (cs_get hi (cs_k0 (by decide))) rfl ?_
    refine ax_get (v := .int (S.1 2)) dX6_addType_4 fkX6_67 (cs_get hi (cs_k0 (by decide))) rfl ?_
    refine ax_iconst (v := 4) dX6_addType_7 (by decide) ?_
    refine ax_icmp_lt (tgt := 21) dX6_addType_8 (by decide) (fun _ => ?_) (fun z => absurd (il_lt σ.1.2.2.1 4 (by omega) h2 rfl) z)
    refine ax_aload_n dX6_addType_21 rfl ?_
    refine ax_get (v := .ref (ad (0, 1))) dX6_addType_22 fkX6_10 (cs_get hi (cs_k0 (by decide))) rfl ?_
    refine ax_dup dX6_addType_25 rfl ?_
    refine ax_get (v := .int (S.1 2)) dX6_addType_26 fkX6_67 (cs_get hi (cs_k0 (by decide))) rfl ?_
    refine ax_iconst (v := 1) dX6_addType_29 (by decide) ?_
    refine ax_iadd dX6_addType_30 ?_
    refine ax_put dX6_addType_31 fpX6_67 (cs_get hi (cs_k0 (by decide))) rfl rfl (Nat.le_of_ble_eq_true rfl) ?_
    refine ax_eqh (cs_ps2 hi) ?_
    refine ax_aload_n dX6_addType_34 rfl ?_
    refine ax_callV (b := (ad (0, 0))) (av := []) (rest := []) (mc' := 0) (ms' := 0) dX6_addType_35 rfl lkX6_64 (cs_get hi (cs_k0 (by decide))) rfl (Nat.le_of_ble_eq_true rfl) (Nat.le_of_ble_eq_true rfl) (by decide) (by decide) (ch_forget hi _ (cs_setS S 2 ((S.1 2) + 1)) h) (fun E9 h9 q9 => by cases q9.1) (fun v9 h9 q9 => ?_)
    obtain ⟨e9, rfl⟩ := q9
    cases e9
    show AW G mX6_addType (d + 16) 1 6 _ 38 [(0, .ref (ad (0, 0)))] [] (cs_O ad (cs_setL (cs_setS (cs_setS S 2 ((S.1 2) + 1)) 7 0) none) h) 0 0
    refine ax_aload_n dX6_addType_38 rfl ?_
    refine ax_get (v := .ref (ad (0, 1))) dX6_addType_39 fkX6_10 (cs_get hi (cs_k0 (by decide))) rfl ?_
    refine ax_get (v := .int ((cs_setL (cs_setS (cs_setS S 2 ((S.1 2) + 1)) 7 0) none).1 2)) dX6_addType_42 fkX6_67 (cs_get hi (cs_k0 (by decide))) rfl ?_
    refine ax_iconst (v := 1) dX6_addType_45 (by decide) ?_
    refine ax_isub dX6_addType_46 ?_
    refine ax_iret (st := []) dX6_addType_47 rfl rfl ⟨?_, _, rfl, hFin⟩
    show _ = Sum.inl (some (Value.int (nI σ.1.2.2.1)))
    rw [show ((cs_setL (cs_setS (cs_setS S 2 (S.1 2 + 1)) 7 0) none).1 2 : Int32) = S.1 2 + 1 from rfl, hC.2.1.2.2.1, nI_1, nI_pred]
theorem cv_tapp (hi : cs_inj ad) (d : Nat) (S : cs_S) (h : ax_H) (c : Int32) {n : Nat} (h10 : S.1 10 = nI n) (hn : n < 40) : AW G mX4_append d 0 0 (fun r h1 => r = .inl none ∧ h1 = cs_O ad (cs_setA (cs_setS S 10 (S.1 10 + 1)) 13 (upd (S.2.1 13) (S.1 10).toNatClampNeg c)) h) 0 [(0, .ref (ad (0, 12))), (1, .int c)] [] (cs_O ad S h) 0 0 := by
  refine ax_eqh (cs_in hi (ks := [(0, 12), (0, 13)]) (cg_k2 (by decide) (by decide))).symm ?_
  refine ax_mono (ctX4_append d (cs_O ad S h) (ad (0, 12)) (ad (0, 1)) (ad (0, 13)) (ad (0, 14)) (S.1 8) (S.1 9) (S.1 10) c (S.2.1 13) (by rw [h10]; exact nI_pos (by omega)) (il_nle 40 n hn rfl h10) (cs_nd hi (cg_k2 (by decide) (by decide)) (by simp))) ?_
  rintro r h1 ⟨e, rfl⟩
  refine ⟨e, ?_⟩
  refine cs_upd (S' := cs_setA (cs_setS S 10 (S.1 10 + 1)) 13 (upd (S.2.1 13) (S.1 10).toNatClampNeg c)) hi (ks := [(0, 12), (0, 13)]) (cg_k2 (by decide) (by decide)) (fun k hk hn => ?_)
  rcases cs_cases hk with ⟨z1, z2⟩ | z
  · obtain ⟨a, i⟩ := k
    have z1 : a = 0 := z1
    have z2 : i < 19 := z2
    subst z1
    have a1 : i ≠ 12 := fun e => hn (by simp [e])
    have a2 : i ≠ 13 := fun e => hn (by simp [e])
    rcases (show i = 0 ∨ i = 1 ∨ i = 2 ∨ i = 3 ∨ i = 4 ∨ i = 5 ∨ i = 6 ∨ i = 7 ∨ i = 8 ∨ i = 9 ∨ i = 10 ∨ i = 11 ∨ i = 14 ∨ i = 15 ∨ i = 16 ∨ i = 17 ∨ i = 18 by omega) with rfl | rfl | rfl | rfl | rfl | rfl | rfl | rfl | rfl | rfl | rfl | rfl | rfl | rfl | rfl | rfl | rfl <;> rfl
  · rw [cs_othA z, cs_othS z]
set_option maxRecDepth 100000 in
set_option maxHeartbeats 4000000 in
theorem pb_tell (hi : cs_inj ad) (d : Nat) (S : cs_S) (h : ax_H) {σ : sp_St} (hC : CI σ S) (c : Int32) : AW G mX6_tell (d + 16) 1 6 (pb_Q ad h (pb_nm ["java/lang/IllegalArgumentException", "java/lang/IllegalStateException"]) (po_tell σ c)) 0 [(0, .ref (ad (0, 0))), (1, .int c)] [] (cs_O ad S h) 0 0 := by
  have h10 : S.1 10 = nI σ.2.1.length := hC.2.2.2.1.1
  have hl40 := hC.2.2.2.1.2.1
  by_cases hr : (¬ c < 0 ∧ c ≤ 5) ∨ (100 ≤ c ∧ c < 106)
  · by_cases hl : σ.2.1.length = 40
    · rw [show po_tell σ c = ((2, 0), σ) from (if_neg (fun z => z hr)).trans (if_pos hl)]
      have b60 : ¬ S.1 10 < 40 := il_nlt 40 40 (Nat.le_refl _) (by rw [h10, hl]) rfl
      rcases hr with ⟨r1, r2⟩ | ⟨r1, r2⟩
      · by_cases c18 : c < 100
        · refine ax_iload_n dX6_tell_0 rfl ?_
          refine ax_if_lt (tgt := 13) dX6_tell_1 (by decide) (fun z => absurd z r1) (fun _ => ?_)
          refine ax_iload_n dX6_tell_4 rfl ?_
          refine ax_iconst (v := 5) dX6_tell_5 (by decide) ?_
          refine ax_icmp_gt (tgt := 13) dX6_tell_6 (by decide) (fun z => absurd z (i_le_not r2)) (fun _ => ?_)
          refine ax_iconst (v := 1) dX6_tell_9 (by decide) ?_
          refine ax_goto (tgt := 14) dX6_tell_10 (by decide) ?_
          refine ax_istore_n dX6_tell_14 (by decide) ?_
          refine ax_sub (lv' := [(0, .ref (ad (0, 0))), (1, .int c), (2, .int 1)]) (fun _ z => z) ?_
          refine ax_iload_n dX6_tell_15 rfl ?_
          refine ax_bipush (v := 100) dX6_tell_16 (by decide) ?_
          refine ax_icmp_lt (tgt := 31) dX6_tell_18 (by decide) (fun _ => ?_) (fun z => absurd c18 z)
          refine ax_iconst (v := 0) dX6_tell_31 (by decide) ?_
          refine ax_istore_n dX6_tell_32 (by decide) ?_
          refine ax_sub (lv' := [(0, .ref (ad (0, 0))), (1, .int c), (2, .int 1), (3, .int 0)]) (fun _ z => z) ?_
          refine ax_iload_n dX6_tell_33 rfl ?_
          refine ax_if_ne (tgt := 51) dX6_tell_34 (by decide) (fun _ => ?_) (fun z => absurd z (by decide))
          refine ax_aload_n dX6_tell_51 rfl ?_
          refine ax_get (v := .ref (ad (0, 12))) dX6_tell_52 fkX6_28 (cs_get hi (cs_k0 (by decide))) rfl ?_
          refine ax_get (v := .int (S.1 10)) dX6_tell_55 fkX6_146 (cs_get hi (cs_k0 (by decide))) rfl ?_
          refine ax_bipush (v := 40) dX6_tell_58 (by decide) ?_
          refine ax_icmp_lt (tgt := 73) dX6_tell_60 (by decide) (fun z => absurd z b60) (fun _ => ?_)
          exact ax_throw rfl (thISE (List.mem_of_getElem? (i := 9) rfl)) dX6_tell_63 dX6_tell_66 dX6_tell_67 dX6_tell_69 dX6_tell_72 (by decide) (by decide) (by decide) ⟨rfl, S, rfl, hC⟩
        · by_cases c24 : 106 ≤ c
          · refine ax_iload_n dX6_tell_0 rfl ?_
            refine ax_if_lt (tgt := 13) dX6_tell_1 (by decide) (fun z => absurd z r1) (fun _ => ?_)
            refine ax_iload_n dX6_tell_4 rfl ?_
            refine ax_iconst (v := 5) dX6_tell_5 (by decide) ?_
            refine ax_icmp_gt (tgt := 13) dX6_tell_6 (by decide) (fun z => absurd z (i_le_not r2)) (fun _ => ?_)
            refine ax_iconst (v := 1) dX6_tell_9 (by decide) ?_
            refine ax_goto (tgt := 14) dX6_tell_10 (by decide) ?_
            refine ax_istore_n dX6_tell_14 (by decide) ?_
            refine ax_sub (lv' := [(0, .ref (ad (0, 0))), (1, .int c), (2, .int 1)]) (fun _ z => z) ?_
            refine ax_iload_n dX6_tell_15 rfl ?_
            refine ax_bipush (v := 100) dX6_tell_16 (by decide) ?_
            refine ax_icmp_lt (tgt := 31) dX6_tell_18 (by decide) (fun z => absurd z c18) (fun _ => ?_)
            refine ax_iload_n dX6_tell_21 rfl ?_
            refine ax_bipush (v := 106) dX6_tell_22 (by decide) ?_
            refine ax_icmp_ge (tgt := 31) dX6_tell_24 (by decide) (fun _ => ?_) (fun z => absurd c24 z)
            refine ax_iconst (v := 0) dX6_tell_31 (by decide) ?_
            refine ax_istore_n dX6_tell_32 (by decide) ?_
            refine ax_sub (lv' := [(0, .ref (ad (0, 0))), (1, .int c), (2, .int 1), (3, .int 0)]) (fun _ z => z) ?_
            refine ax_iload_n dX6_tell_33 rfl ?_
            refine ax_if_ne (tgt := 51) dX6_tell_34 (by decide) (fun _ => ?_) (fun z => absurd z (by decide))
            refine ax_aload_n dX6_tell_51 rfl ?_
            refine ax_get (v := .ref (ad (0, 12))) dX6_tell_52 fkX6_28 (cs_get hi (cs_k0 (by decide))) rfl ?_
            refine ax_get (v := .int (S.1 10)) dX6_tell_55 fkX6_146 (cs_get hi (cs_k0 (by decide))) rfl ?_
            refine ax_bipush (v := 40) dX6_tell_58 (by decide) ?_
            refine ax_icmp_lt (tgt := 73) dX6_tell_60 (by decide) (fun z => absurd z b60) (fun _ => ?_)
            exact ax_throw rfl (thISE (List.mem_of_getElem? (i := 9) rfl)) dX6_tell_63 dX6_tell_66 dX6_tell_67 dX6_tell_69 dX6_tell_72 (by decide) (by decide) (by decide) ⟨rfl, S, rfl, hC⟩
          · refine ax_iload_n dX6_tell_0 rfl ?_
            refine ax_if_lt (tgt := 13) dX6_tell_1 (by decide) (fun z => absurd z r1) (fun _ => ?_)
            refine ax_iload_n dX6_tell_4 rfl ?_
            refine ax_iconst (v := 5) dX6_tell_5 (by decide) ?_
            refine ax_icmp_gt (tgt := 13) dX6_tell_6 (by decide) (fun z => absurd z (i_le_not r2)) (fun _ => ?_)
            refine ax_iconst (v := 1) dX6_tell_9 (by decide) ?_
            refine ax_goto (tgt := 14) dX6_tell_10 (by decide) ?_
            refine ax_istore_n dX6_tell_14 (by decide) ?_
            refine ax_sub (lv' := [(0, .ref (ad (0, 0))), (1, .int c), (2, .int 1)]) (fun _ z => z) ?_
            refine ax_iload_n dX6_tell_15 rfl ?_
            refine ax_bipush (v := 100) dX6_tell_16 (by decide) ?_
            refine ax_icmp_lt (tgt := 31) dX6_tell_18 (by decide) (fun z => absurd z c18) (fun _ => ?_)
            refine ax_iload_n dX6_tell_21 rfl ?_
            refine ax_bipush (v := 106) dX6_tell_22 (by decide) ?_
            refine ax_icmp_ge (tgt := 31) dX6_tell_24 (by decide) (fun z => absurd z c24) (fun _ => ?_)
            refine ax_iconst (v := 1) dX6_tell_27 (by decide) ?_
            refine ax_goto (tgt := 32) dX6_tell_28 (by decide) ?_
            refine ax_istore_n dX6_tell_32 (by decide) ?_
            refine ax_sub (lv' := [(0, .ref (ad (0, 0))), (1, .int c), (2, .int 1), (3, .int 1)]) (fun _ z => z) ?_
            refine ax_iload_n dX6_tell_33 rfl ?_
            refine ax_if_ne (tgt := 51) dX6_tell_34 (by decide) (fun _ => ?_) (fun z => absurd z (by decide))
            refine ax_aload_n dX6_tell_51 rfl ?_
            refine ax_get (v := .ref (ad (0, 12))) dX6_tell_52 fkX6_28 (cs_get hi (cs_k0 (by decide))) rfl ?_
            refine ax_get (v := .int (S.1 10)) dX6_tell_55 fkX6_146 (cs_get hi (cs_k0 (by decide))) rfl ?_
            refine ax_bipush (v := 40) dX6_tell_58 (by decide) ?_
            refine ax_icmp_lt (tgt := 73) dX6_tell_60 (by decide) (fun z => absurd z b60) (fun _ => ?_)
            exact ax_throw rfl (thISE (List.mem_of_getElem? (i := 9) rfl)) dX6_tell_63 dX6_tell_66 dX6_tell_67 dX6_tell_69 dX6_tell_72 (by decide) (by decide) (by decide) ⟨rfl, S, rfl, hC⟩
      · have e5 : 5 < c := i_lt_le (by decide) r1
        have e0 : ¬ c < 0 := i_le_not (i_le_le (by decide) r1)
        refine ax_iload_n dX6_tell_0 rfl ?_
        refine ax_if_lt (tgt := 13) dX6_tell_1 (by decide) (fun z => absurd z e0) (fun _ => ?_)
        refine ax_iload_n dX6_tell_4 rfl ?_
        refine ax_iconst (v := 5) dX6_tell_5 (by decide) ?_
        refine ax_icmp_gt (tgt := 13) dX6_tell_6 (by decide) (fun _ => ?_) (fun z => absurd e5 z)
        refine ax_iconst (v := 0) dX6_tell_13 (by decide) ?_
        refine ax_istore_n dX6_tell_14 (by decide) ?_
        refine ax_sub (lv' := [(0, .ref (ad (0, 0))), (1, .int c), (2, .int 0)]) (fun _ z => z) ?_
        refine ax_iload_n dX6_tell_15 rfl ?_
        refine ax_bipush (v := 100) dX6_tell_16 (by decide) ?_
        refine ax_icmp_lt (tgt := 31) dX6_tell_18 (by decide) (fun z => absurd z (i_le_not r1)) (fun _ => ?_)
        refine ax_iload_n dX6_tell_21 rfl ?_
        refine ax_bipush (v := 106) dX6_tell_22 (by decide) ?_
        refine ax_icmp_ge (tgt := 31) dX6_tell_24 (by decide) (fun z => absurd z (i_lt_not r2)) (fun _ => ?_)
        refine ax_iconst (v := 1) dX6_tell_27 (by decide) ?_
        refine ax_goto (tgt := 32) dX6_tell_28 (by decide) ?_
        refine ax_istore_n dX6_tell_32 (by decide) ?_
        refine ax_sub (lv' := [(0, .ref (ad (0, 0))), (1, .int c), (2, .int 0), (3, .int 1)]) (fun _ z => z) ?_
        refine ax_iload_n dX6_tell_33 rfl ?_
        refine ax_if_ne (tgt := 51) dX6_tell_34 (by decide) (fun z => absurd rfl z) (fun _ => ?_)
        refine ax_iload_n dX6_tell_37 rfl ?_
        refine ax_if_ne (tgt := 51) dX6_tell_38 (by decide) (fun _ => ?_) (fun z => absurd z (by decide))
        refine ax_aload_n dX6_tell_51 rfl ?_
        refine ax_get (v := .ref (ad (0, 12))) dX6_tell_52 fkX6_28 (cs_get hi (cs_k0 (by decide))) rfl ?_
        refine ax_get (v := .int (S.1 10)) dX6_tell_55 fkX6_146 (cs_get hi (cs_k0 (by decide))) rfl ?_
        refine ax_bipush (v := 40) dX6_tell_58 (by decide) ?_
        refine ax_icmp_lt (tgt := 73) dX6_tell_60 (by decide) (fun z => absurd z b60) (fun _ => ?_)
        exact ax_throw rfl (thISE (List.mem_of_getElem? (i := 9) rfl)) dX6_tell_63 dX6_tell_66 dX6_tell_67 dX6_tell_69 dX6_tell_72 (by decide) (by decide) (by decide) ⟨rfl, S, rfl, hC⟩
    · have hl : σ.2.1.length < 40 := by omega
      rw [show po_tell σ c = _ from (if_neg (fun z => z hr)).trans (if_neg (by omega))]
      have b60 : S.1 10 < 40 := il_lt σ.2.1.length 40 hl h10 rfl
      have hcn : ∃ n, c = nI n ∧ (n ≤ 5 ∨ (100 ≤ n ∧ n ≤ 105)) := by
        have t0 : (0 : Int32).toInt = 0 := by decide
        have t5 : (5 : Int32).toInt = 5 := by decide
        have t100 : (100 : Int32).toInt = 100 := by decide
        have t106 : (106 : Int32).toInt = 106 := by decide
        rcases hr with ⟨r1, r2⟩ | ⟨r1, r2⟩
        · obtain ⟨j, hj, rfl⟩ := nI_of r1
          rw [Int32.le_iff_toInt_le, nI_toInt hj] at r2
          exact ⟨j, rfl, by omega⟩
        · rw [Int32.le_iff_toInt_le] at r1
          obtain ⟨j, hj, rfl⟩ := nI_of (x := c) (by rw [Int32.lt_iff_toInt_lt]; omega)
          rw [nI_toInt hj] at r1
          rw [Int32.lt_iff_toInt_lt, nI_toInt hj] at r2
          exact ⟨j, rfl, by omega⟩
      have hFin : CI (σ.1, σ.2.1 ++ [c.toNatClampNeg], σ.2.2) (cs_setA (cs_setS S 10 (S.1 10 + 1)) 13 (upd (S.2.1 13) (S.1 10).toNatClampNeg c)) := by
        obtain ⟨n, rfl, hn⟩ := hcn
        have hn2 : n < 2 ^ 31 := by omega
        rw [nI_clamp hn2]
        refine CI_mv (S' := cs_setA (cs_setS S 10 (S.1 10 + 1)) 13 (upd (S.2.1 13) (S.1 10).toNatClampNeg (nI n))) hC ⟨fun i a _ _ => pk_un (by omega), fun i hi9 => va_up_ne (S.2.1) _ (show i ≠ 13 by omega), fun _ _ => rfl, fun _ _ => ⟨rfl, rfl, rfl⟩⟩ ?_ hC.2.2.2.2.2.2.1 hC.2.2.2.2.2.2.2
        refine ⟨?_, by simp; omega, fun i a z => ?_, fun a ha => ?_⟩
        · show S.1 10 + 1 = _
          rw [h10, nI_1]; simp
        · show upd (S.2.1 13) (S.1 10).toNatClampNeg (nI n) i = nI a
          rw [h10, nI_clamp (by omega)]
          by_cases hi : i < σ.2.1.length
          · rw [List.getElem?_append_left hi] at z
            rw [pk_un (by omega)]; exact hC.2.2.2.1.2.2.1 i a z
          · rw [List.getElem?_append_right (by omega)] at z
            have : i - σ.2.1.length = 0 := by
              have := (List.getElem?_eq_some_iff.mp z).1
              simp at this; omega
            rw [this] at z
            simp at z
            rw [show i = σ.2.1.length by omega, pk_us, z]
        · rcases List.mem_append.mp ha with z | z
          · exact hC.2.2.2.1.2.2.2 a z
          · simp at z; rw [z]; exact hn
      rcases hr with ⟨r1, r2⟩ | ⟨r1, r2⟩
      · by_cases c18 : c < 100
        · refine ax_iload_n dX6_tell_0 rfl ?_
          refine ax_if_lt (tgt := 13) dX6_tell_1 (by decide) (fun z => absurd z r1) (fun _ => ?_)
          refine ax_iload_n dX6_tell_4 rfl ?_
          refine ax_iconst (v := 5) dX6_tell_5 (by decide) ?_
          refine ax_icmp_gt (tgt := 13) dX6_tell_6 (by decide) (fun z => absurd z (i_le_not r2)) (fun _ => ?_)
          refine ax_iconst (v := 1) dX6_tell_9 (by decide) ?_
          refine ax_goto (tgt := 14) dX6_tell_10 (by decide) ?_
          refine ax_istore_n dX6_tell_14 (by decide) ?_
          refine ax_sub (lv' := [(0, .ref (ad (0, 0))), (1, .int c), (2, .int 1)]) (fun _ z => z) ?_
          refine ax_iload_n dX6_tell_15 rfl ?_
          refine ax_bipush (v := 100) dX6_tell_16 (by decide) ?_
          refine ax_icmp_lt (tgt := 31) dX6_tell_18 (by decide) (fun _ => ?_) (fun z => absurd c18 z)
          refine ax_iconst (v := 0) dX6_tell_31 (by decide) ?_
          refine ax_istore_n dX6_tell_32 (by decide) ?_
          refine ax_sub (lv' := [(0, .ref (ad (0, 0))), (1, .int c), (2, .int 1), (3, .int 0)]) (fun _ z => z) ?_
          refine ax_iload_n dX6_tell_33 rfl ?_
          refine ax_if_ne (tgt := 51) dX6_tell_34 (by decide) (fun _ => ?_) (fun z => absurd z (by decide))
          refine ax_aload_n dX6_tell_51 rfl ?_
          refine ax_get (v := .ref (ad (0, 12))) dX6_tell_52 fkX6_28 (cs_get hi (cs_k0 (by decide))) rfl ?_
          refine ax_get (v := .int (S.1 10)) dX6_tell_55 fkX6_146 (cs_get hi (cs_k0 (by decide))) rfl ?_
          refine ax_bipush (v := 40) dX6_tell_58 (by decide) ?_
          refine ax_icmp_lt (tgt := 73) dX6_tell_60 (by decide) (fun _ => ?_) (fun z => absurd b60 z)
          refine ax_aload_n dX6_tell_73 rfl ?_
          refine ax_get (v := .ref (ad (0, 12))) dX6_tell_74 fkX6_28 (cs_get hi (cs_k0 (by decide))) rfl ?_
          refine ax_iload_n dX6_tell_77 rfl ?_
          refine ax_callV (b := (ad (0, 12))) (av := [.int c]) (rest := []) (mc' := 0) (ms' := 0) dX6_tell_78 rfl lkX6_151 (cs_get hi (cs_k0 (by decide))) rfl (Nat.le_of_ble_eq_true rfl) (Nat.le_of_ble_eq_true rfl) (by decide) (by decide) (cv_tapp hi _ S h c h10 hl) (fun E9 h9 q9 => by cases q9.1) (fun v9 h9 q9 => ?_)
          obtain ⟨e9, rfl⟩ := q9
          cases e9
          show AW G mX6_tell (d + 16) 1 6 _ 81 [(0, .ref (ad (0, 0))), (1, .int c), (2, .int 1), (3, .int 0)] [] (cs_O ad (cs_setA (cs_setS S 10 (S.1 10 + 1)) 13 (upd (S.2.1 13) (S.1 10).toNatClampNeg c)) h) 0 0
          refine ax_aload_n dX6_tell_81 rfl ?_
          refine ax_get (v := .ref (ad (0, 12))) dX6_tell_82 fkX6_28 (cs_get hi (cs_k0 (by decide))) rfl ?_
          refine ax_get (v := .int ((cs_setA (cs_setS S 10 (S.1 10 + 1)) 13 (upd (S.2.1 13) (S.1 10).toNatClampNeg c)).1 10)) dX6_tell_85 fkX6_146 (cs_get hi (cs_k0 (by decide))) rfl ?_
          refine ax_iret (st := []) dX6_tell_88 rfl rfl ⟨?_, _, rfl, hFin⟩
          show _ = Sum.inl (some (Value.int (nI (σ.2.1.length + 1))))
          rw [show ((cs_setA (cs_setS S 10 (S.1 10 + 1)) 13 (upd (S.2.1 13) (S.1 10).toNatClampNeg c)).1 10 : Int32) = S.1 10 + 1 from rfl, h10, nI_1]
        · by_cases c24 : 106 ≤ c
          · refine ax_iload_n dX6_tell_0 rfl ?_
            refine ax_if_lt (tgt := 13) dX6_tell_1 (by decide) (fun z => absurd z r1) (fun _ => ?_)
            refine ax_iload_n dX6_tell_4 rfl ?_
            refine ax_iconst (v := 5) dX6_tell_5 (by decide) ?_
            refine ax_icmp_gt (tgt := 13) dX6_tell_6 (by decide) (fun z => absurd z (i_le_not r2)) (fun _ => ?_)
            refine ax_iconst (v := 1) dX6_tell_9 (by decide) ?_
            refine ax_goto (tgt := 14) dX6_tell_10 (by decide) ?_
            refine ax_istore_n dX6_tell_14 (by decide) ?_
            refine ax_sub (lv' := [(0, .ref (ad (0, 0))), (1, .int c), (2, .int 1)]) (fun _ z => z) ?_
            refine ax_iload_n dX6_tell_15 rfl ?_
            refine ax_bipush (v := 100) dX6_tell_16 (by decide) ?_
            refine ax_icmp_lt (tgt := 31) dX6_tell_18 (by decide) (fun z => absurd z c18) (fun _ => ?_)
            refine ax_iload_n dX6_tell_21 rfl ?_
            refine ax_bipush (v := 106) dX6_tell_22 (by decide) ?_
            refine ax_icmp_ge (tgt := 31) dX6_tell_24 (by decide) (fun _ => ?_) (fun z => absurd c24 z)
            refine ax_iconst (v := 0) dX6_tell_31 (by decide) ?_
            refine ax_istore_n dX6_tell_32 (by decide) ?_
            refine ax_sub (lv' := [(0, .ref (ad (0, 0))), (1, .int c), (2, .int 1), (3, .int 0)]) (fun _ z => z) ?_
            refine ax_iload_n dX6_tell_33 rfl ?_
            refine ax_if_ne (tgt := 51) dX6_tell_34 (by decide) (fun _ => ?_) (fun z => absurd z (by decide))
            refine ax_aload_n dX6_tell_51 rfl ?_
            refine ax_get (v := .ref (ad (0, 12))) dX6_tell_52 fkX6_28 (cs_get hi (cs_k0 (by decide))) rfl ?_
            refine ax_get (v := .int (S.1 10)) dX6_tell_55 fkX6_146 (cs_get hi (cs_k0 (by decide))) rfl ?_
            refine ax_bipush (v := 40) dX6_tell_58 (by decide) ?_
            refine ax_icmp_lt (tgt := 73) dX6_tell_60 (by decide) (fun _ => ?_) (fun z => absurd b60 z)
            refine ax_aload_n dX6_tell_73 rfl ?_
            refine ax_get (v := .ref (ad (0, 12))) dX6_tell_74 fkX6_28 (cs_get hi (cs_k0 (by decide))) rfl ?_
            refine ax_iload_n dX6_tell_77 rfl ?_
            refine ax_callV (b := (ad (0, 12))) (av := [.int c]) (rest := []) (mc' := 0) (ms' := 0) dX6_tell_78 rfl lkX6_151 (cs_get hi (cs_k0 (by decide))) rfl (Nat.le_of_ble_eq_true rfl) (Nat.le_of_ble_eq_true rfl) (by decide) (by decide) (cv_tapp hi _ S h c h10 hl) (fun E9 h9 q9 => by cases q9.1) (fun v9 h9 q9 => ?_)
            obtain ⟨e9, rfl⟩ := q9
            cases e9
            show AW G mX6_tell (d + 16) 1 6 _ 81 [(0, .ref (ad (0, 0))), (1, .int c), (2, .int 1), (3, .int 0)] [] (cs_O ad (cs_setA (cs_setS S 10 (S.1 10 + 1)) 13 (upd (S.2.1 13) (S.1 10).toNatClampNeg c)) h) 0 0
            refine ax_aload_n dX6_tell_81 rfl ?_
            refine ax_get (v := .ref (ad (0, 12))) dX6_tell_82 fkX6_28 (cs_get hi (cs_k0 (by decide))) rfl ?_
            refine ax_get (v := .int ((cs_setA (cs_setS S 10 (S.1 10 + 1)) 13 (upd (S.2.1 13) (S.1 10).toNatClampNeg c)).1 10)) dX6_tell_85 fkX6_146 (cs_get hi (cs_k0 (by decide))) rfl ?_
            refine ax_iret (st := []) dX6_tell_88 rfl rfl ⟨?_, _, rfl, hFin⟩
            show _ = Sum.inl (some (Value.int (nI (σ.2.1.length + 1))))
            rw [show ((cs_setA (cs_setS S 10 (S.1 10 + 1)) 13 (upd (S.2.1 13) (S.1 10).toNatClampNeg c)).1 10 : Int32) = S.1 10 + 1 from rfl, h10, nI_1]
          · refine ax_iload_n dX6_tell_0 rfl ?_
            refine ax_if_lt (tgt := 13) dX6_tell_1 (by decide) (fun z => absurd z r1) (fun _ => ?_)
            refine ax_iload_n dX6_tell_4 rfl ?_
            refine ax_iconst (v := 5) dX6_tell_5 (by decide) ?_
            refine ax_icmp_gt (tgt := 13) dX6_tell_6 (by decide) (fun z => absurd z (i_le_not r2)) (fun _ => ?_)
            refine ax_iconst (v := 1) dX6_tell_9 (by decide) ?_
            refine ax_goto (tgt := 14) dX6_tell_10 (by decide) ?_
            refine ax_istore_n dX6_tell_14 (by decide) ?_
            refine ax_sub (lv' := [(0, .ref (ad (0, 0))), (1, .int c), (2, .int 1)]) (fun _ z => z) ?_
            refine ax_iload_n dX6_tell_15 rfl ?_
            refine ax_bipush (v := 100) dX6_tell_16 (by decide) ?_
            refine ax_icmp_lt (tgt := 31) dX6_tell_18 (by decide) (fun z => absurd z c18) (fun _ => ?_)
            refine ax_iload_n dX6_tell_21 rfl ?_
            refine ax_bipush (v := 106) dX6_tell_22 (by decide) ?_
            refine ax_icmp_ge (tgt := 31) dX6_tell_24 (by decide) (fun z => absurd z c24) (fun _ => ?_)
            refine ax_iconst (v := 1) dX6_tell_27 (by decide) ?_
            refine ax_goto (tgt := 32) dX6_tell_28 (by decide) ?_
            refine ax_istore_n dX6_tell_32 (by decide) ?_
            refine ax_sub (lv' := [(0, .ref (ad (0, 0))), (1, .int c), (2, .int 1), (3, .int 1)]) (fun _ z => z) ?_
            refine ax_iload_n dX6_tell_33 rfl ?_
            refine ax_if_ne (tgt := 51) dX6_tell_34 (by decide) (fun _ => ?_) (fun z => absurd z (by decide))
            refine ax_aload_n dX6_tell_51 rfl ?_
            refine ax_get (v := .ref (ad (0, 12))) dX6_tell_52 fkX6_28 (cs_get hi (cs_k0 (by decide))) rfl ?_
            refine ax_get (v := .int (S.1 10)) dX6_tell_55 fkX6_146 (cs_get hi (cs_k0 (by decide))) rfl ?_
            refine ax_bipush (v := 40) dX6_tell_58 (by decide) ?_
            refine ax_icmp_lt (tgt := 73) dX6_tell_60 (by decide) (fun _ => ?_) (fun z => absurd b60 z)
            refine ax_aload_n dX6_tell_73 rfl ?_
            refine ax_get (v := .ref (ad (0, 12))) dX6_tell_74 fkX6_28 (cs_get hi (cs_k0 (by decide))) rfl ?_
            refine ax_iload_n dX6_tell_77 rfl ?_
            refine ax_callV (b := (ad (0, 12))) (av := [.int c]) (rest := []) (mc' := 0) (ms' := 0) dX6_tell_78 rfl lkX6_151 (cs_get hi (cs_k0 (by decide))) rfl (Nat.le_of_ble_eq_true rfl) (Nat.le_of_ble_eq_true rfl) (by decide) (by decide) (cv_tapp hi _ S h c h10 hl) (fun E9 h9 q9 => by cases q9.1) (fun v9 h9 q9 => ?_)
            obtain ⟨e9, rfl⟩ := q9
            cases e9
            show AW G mX6_tell (d + 16) 1 6 _ 81 [(0, .ref (ad (0, 0))), (1, .int c), (2, .int 1), (3, .int 1)] [] (cs_O ad (cs_setA (cs_setS S 10 (S.1 10 + 1)) 13 (upd (S.2.1 13) (S.1 10).toNatClampNeg c)) h) 0 0
            refine ax_aload_n dX6_tell_81 rfl ?_
            refine ax_get (v := .ref (ad (0, 12))) dX6_tell_82 fkX6_28 (cs_get hi (cs_k0 (by decide))) rfl ?_
            refine ax_get (v := .int ((cs_setA (cs_setS S 10 (S.1 10 + 1)) 13 (upd (S.2.1 13) (S.1 10).toNatClampNeg c)).1 10)) dX6_tell_85 fkX6_146 (cs_get hi (cs_k0 (by decide))) rfl ?_
            refine ax_iret (st := []) dX6_tell_88 rfl rfl ⟨?_, _, rfl, hFin⟩
            show _ = Sum.inl (some (Value.int (nI (σ.2.1.length + 1))))
            rw [show ((cs_setA (cs_setS S 10 (S.1 10 + 1)) 13 (upd (S.2.1 13) (S.1 10).toNatClampNeg c)).1 10 : Int32) = S.1 10 + 1 from rfl, h10, nI_1]
      · have e5 : 5 < c := i_lt_le (by decide) r1
        have e0 : ¬ c < 0 := i_le_not (i_le_le (by decide) r1)
        refine ax_iload_n dX6_tell_0 rfl ?_
        refine ax_if_lt (tgt := 13) dX6_tell_1 (by decide) (fun z => absurd z e0) (fun _ => ?_)
        refine ax_iload_n dX6_tell_4 rfl ?_
        refine ax_iconst (v := 5) dX6_tell_5 (by decide) ?_
        refine ax_icmp_gt (tgt := 13) dX6_tell_6 (by decide) (fun _ => ?_) (fun z => absurd e5 z)
        refine ax_iconst (v := 0) dX6_tell_13 (by decide) ?_
        refine ax_istore_n dX6_tell_14 (by decide) ?_
        refine ax_sub (lv' := [(0, .ref (ad (0, 0))), (1, .int c), (2, .int 0)]) (fun _ z => z) ?_
        refine ax_iload_n dX6_tell_15 rfl ?_
        refine ax_bipush (v := 100) dX6_tell_16 (by decide) ?_
        refine ax_icmp_lt (tgt := 31) dX6_tell_18 (by decide) (fun z => absurd z (i_le_not r1)) (fun _ => ?_)
        refine ax_iload_n dX6_tell_21 rfl ?_
        refine ax_bipush (v := 106) dX6_tell_22 (by decide) ?_
        refine ax_icmp_ge (tgt := 31) dX6_tell_24 (by decide) (fun z => absurd z (i_lt_not r2)) (fun _ => ?_)
        refine ax_iconst (v := 1) dX6_tell_27 (by decide) ?_
        refine ax_goto (tgt := 32) dX6_tell_28 (by decide) ?_
        refine ax_istore_n dX6_tell_32 (by decide) ?_
        refine ax_sub (lv' := [(0, .ref (ad (0, 0))), (1, .int c), (2, .int 0), (3, .int 1)]) (fun _ z => z) ?_
        refine ax_iload_n dX6_tell_33 rfl ?_
        refine ax_if_ne (tgt := 51) dX6_tell_34 (by decide) (fun z => absurd rfl z) (fun _ => ?_)
        refine ax_iload_n dX6_tell_37 rfl ?_
        refine ax_if_ne (tgt := 51) dX6_tell_38 (by decide) (fun _ => ?_) (fun z => absurd z (by decide))
        refine ax_aload_n dX6_tell_51 rfl ?_
        refine ax_get (v := .ref (ad (0, 12))) dX6_tell_52 fkX6_28 (cs_get hi (cs_k0 (by decide))) rfl ?_
        refine ax_get (v := .int (S.1 10)) dX6_tell_55 fkX6_146 (cs_get hi (cs_k0 (by decide))) rfl ?_
        refine ax_bipush (v := 40) dX6_tell_58 (by decide) ?_
        refine ax_icmp_lt (tgt := 73) dX6_tell_60 (by decide) (fun _ => ?_) (fun z => absurd b60 z)
        refine ax_aload_n dX6_tell_73 rfl ?_
        refine ax_get (v := .ref (ad (0, 12))) dX6_tell_74 fkX6_28 (cs_get hi (cs_k0 (by decide))) rfl ?_
        refine ax_iload_n dX6_tell_77 rfl ?_
        refine ax_callV (b := (ad (0, 12))) (av := [.int c]) (rest := []) (mc' := 0) (ms' := 0) dX6_tell_78 rfl lkX6_151 (cs_get hi (cs_k0 (by decide))) rfl (Nat.le_of_ble_eq_true rfl) (Nat.le_of_ble_eq_true rfl) (by decide) (by decide) (cv_tapp hi _ S h c h10 hl) (fun E9 h9 q9 => by cases q9.1) (fun v9 h9 q9 => ?_)
        obtain ⟨e9, rfl⟩ := q9
        cases e9
        show AW G mX6_tell (d + 16) 1 6 _ 81 [(0, .ref (ad (0, 0))), (1, .int c), (2, .int 0), (3, .int 1)] [] (cs_O ad (cs_setA (cs_setS S 10 (S.1 10 + 1)) 13 (upd (S.2.1 13) (S.1 10).toNatClampNeg c)) h) 0 0
        refine ax_aload_n dX6_tell_81 rfl ?_
        refine ax_get (v := .ref (ad (0, 12))) dX6_tell_82 fkX6_28 (cs_get hi (cs_k0 (by decide))) rfl ?_
        refine ax_get (v := .int ((cs_setA (cs_setS S 10 (S.1 10 + 1)) 13 (upd (S.2.1 13) (S.1 10).toNatClampNeg c)).1 10)) dX6_tell_85 fkX6_146 (cs_get hi (cs_k0 (by decide))) rfl ?_
        refine ax_iret (st := []) dX6_tell_88 rfl rfl ⟨?_, _, rfl, hFin⟩
        show _ = Sum.inl (some (Value.int (nI (σ.2.1.length + 1))))
        rw [show ((cs_setA (cs_setS S 10 (S.1 10 + 1)) 13 (upd (S.2.1 13) (S.1 10).toNatClampNeg c)).1 10 : Int32) = S.1 10 + 1 from rfl, h10, nI_1]
  · rw [show po_tell σ c = ((1, 0), σ) from if_pos hr]
    have q1 : ¬ (¬ c < 0 ∧ c ≤ 5) := fun z => hr (Or.inl z)
    have q2 : ¬ (100 ≤ c ∧ c < 106) := fun z => hr (Or.inr z)
    by_cases c0 : c < 0
    · have c18 : c < 100 := i_lt_le c0 (by decide)
      refine ax_iload_n dX6_tell_0 rfl ?_
      refine ax_if_lt (tgt := 13) dX6_tell_1 (by decide) (fun _ => ?_) (fun z => absurd c0 z)
      refine ax_iconst (v := 0) dX6_tell_13 (by decide) ?_
      refine ax_istore_n dX6_tell_14 (by decide) ?_
      refine ax_sub (lv' := [(0, .ref (ad (0, 0))), (1, .int c), (2, .int 0)]) (fun _ z => z) ?_
      refine ax_iload_n dX6_tell_15 rfl ?_
      refine ax_bipush (v := 100) dX6_tell_16 (by decide) ?_
      refine ax_icmp_lt (tgt := 31) dX6_tell_18 (by decide) (fun _ => ?_) (fun z => absurd c18 z)
      refine ax_iconst (v := 0) dX6_tell_31 (by decide) ?_
      refine ax_istore_n dX6_tell_32 (by decide) ?_
      refine ax_sub (lv' := [(0, .ref (ad (0, 0))), (1, .int c), (2, .int 0), (3, .int 0)]) (fun _ z => z) ?_
      refine ax_iload_n dX6_tell_33 rfl ?_
      refine ax_if_ne (tgt := 51) dX6_tell_34 (by decide) (fun z => absurd rfl z) (fun _ => ?_)
      refine ax_iload_n dX6_tell_37 rfl ?_
      refine ax_if_ne (tgt := 51) dX6_tell_38 (by decide) (fun z => absurd rfl z) (fun _ => ?_)
      exact ax_throw rfl (thIAE (List.mem_of_getElem? (i := 8) rfl)) dX6_tell_41 dX6_tell_44 dX6_tell_45 dX6_tell_47 dX6_tell_50 (by decide) (by decide) (by decide) ⟨rfl, S, rfl, hC⟩
    · have c6 : 5 < c := i_not_lt (fun z => q1 ⟨c0, z⟩)
      by_cases c18 : c < 100
      · refine ax_iload_n dX6_tell_0 rfl ?_
        refine ax_if_lt (tgt := 13) dX6_tell_1 (by decide) (fun z => absurd z c0) (fun _ => ?_)
        refine ax_iload_n dX6_tell_4 rfl ?_
        refine ax_iconst (v := 5) dX6_tell_5 (by decide) ?_
        refine ax_icmp_gt (tgt := 13) dX6_tell_6 (by decide) (fun _ => ?_) (fun z => absurd c6 z)
        refine ax_iconst (v := 0) dX6_tell_13 (by decide) ?_
        refine ax_istore_n dX6_tell_14 (by decide) ?_
        refine ax_sub (lv' := [(0, .ref (ad (0, 0))), (1, .int c), (2, .int 0)]) (fun _ z => z) ?_
        refine ax_iload_n dX6_tell_15 rfl ?_
        refine ax_bipush (v := 100) dX6_tell_16 (by decide) ?_
        refine ax_icmp_lt (tgt := 31) dX6_tell_18 (by decide) (fun _ => ?_) (fun z => absurd c18 z)
        refine ax_iconst (v := 0) dX6_tell_31 (by decide) ?_
        refine ax_istore_n dX6_tell_32 (by decide) ?_
        refine ax_sub (lv' := [(0, .ref (ad (0, 0))), (1, .int c), (2, .int 0), (3, .int 0)]) (fun _ z => z) ?_
        refine ax_iload_n dX6_tell_33 rfl ?_
        refine ax_if_ne (tgt := 51) dX6_tell_34 (by decide) (fun z => absurd rfl z) (fun _ => ?_)
        refine ax_iload_n dX6_tell_37 rfl ?_
        refine ax_if_ne (tgt := 51) dX6_tell_38 (by decide) (fun z => absurd rfl z) (fun _ => ?_)
        exact ax_throw rfl (thIAE (List.mem_of_getElem? (i := 8) rfl)) dX6_tell_41 dX6_tell_44 dX6_tell_45 dX6_tell_47 dX6_tell_50 (by decide) (by decide) (by decide) ⟨rfl, S, rfl, hC⟩
      · have c24 : 106 ≤ c := i_not_le (fun z => q2 ⟨i_not_le c18, z⟩)
        refine ax_iload_n dX6_tell_0 rfl ?_
        refine ax_if_lt (tgt := 13) dX6_tell_1 (by decide) (fun z => absurd z c0) (fun _ => ?_)
        refine ax_iload_n dX6_tell_4 rfl ?_
        refine ax_iconst (v := 5) dX6_tell_5 (by decide) ?_
        refine ax_icmp_gt (tgt := 13) dX6_tell_6 (by decide) (fun _ => ?_) (fun z => absurd c6 z)
        refine ax_iconst (v := 0) dX6_tell_13 (by decide) ?_
        refine ax_istore_n dX6_tell_14 (by decide) ?_
        refine ax_sub (lv' := [(0, .ref (ad (0, 0))), (1, .int c), (2, .int 0)]) (fun _ z => z) ?_
        refine ax_iload_n dX6_tell_15 rfl ?_
        refine ax_bipush (v := 100) dX6_tell_16 (by decide) ?_
        refine ax_icmp_lt (tgt := 31) dX6_tell_18 (by decide) (fun z => absurd z c18) (fun _ => ?_)
        refine ax_iload_n dX6_tell_21 rfl ?_
        refine ax_bipush (v := 106) dX6_tell_22 (by decide) ?_
        refine ax_icmp_ge (tgt := 31) dX6_tell_24 (by decide) (fun _ => ?_) (fun z => absurd c24 z)
        refine ax_iconst (v := 0) dX6_tell_31 (by decide) ?_
        refine ax_istore_n dX6_tell_32 (by decide) ?_
        refine ax_sub (lv' := [(0, .ref (ad (0, 0))), (1, .int c), (2, .int 0), (3, .int 0)]) (fun _ z => z) ?_
        refine ax_iload_n dX6_tell_33 rfl ?_
        refine ax_if_ne (tgt := 51) dX6_tell_34 (by decide) (fun z => absurd rfl z) (fun _ => ?_)
        refine ax_iload_n dX6_tell_37 rfl ?_
        refine ax_if_ne (tgt := 51) dX6_tell_38 (by decide) (fun z => absurd rfl z) (fun _ => ?_)
        exact ax_throw rfl (thIAE (List.mem_of_getElem? (i := 8) rfl)) dX6_tell_41 dX6_tell_44 dX6_tell_45 dX6_tell_47 dX6_tell_50 (by decide) (by decide) (by decide) ⟨rfl, S, rfl, hC⟩
end PUB
